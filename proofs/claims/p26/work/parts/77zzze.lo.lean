def jI (S : List Int) (z : Nat → Value) : Prop := ∀ i : Nat, i < S.length → ∃ v : Int32, z i = .int v ∧ S[i]? = some v.toInt
theorem jI_app {S : List Int} {z : Nat → Value} {v : Int32} (h : jI S z) : jI (S ++ [v.toInt]) (updV z S.length (.int v)) := by
  intro i hi
  rw [List.length_append] at hi
  have hi : i < S.length + 1 := hi
  by_cases e : i = S.length
  · subst e
    exact ⟨v, updV_eq, by simp⟩
  · obtain ⟨w, h1, h2⟩ := h i (by omega)
    exact ⟨w, by rw [updV_ne e]; exact h1, by rw [List.getElem?_append_left (by omega)]; exact h2⟩
def jOf (D : va_G) (cA : Nat → ClassId) (ro : Nat → Option Nat) (H : Heap) (a : Nat) (S : List Int) : Prop := ∃ (ao : Nat) (zo : Nat → Value) (n : Int32), zh_f D H a 11 23 = .ref ao ∧ ro ao = some 32 ∧ H[ao]? = some (arrV (cA 0) 64 zo) ∧ zh_f D H a 11 24 = .int n ∧ n.toInt = (S.length : Int) ∧ jI S zo
theorem jOf.kept {D : va_G} {cA : Nat → ClassId} {ro : Nat → Option Nat} {H H' : Heap} {ms : List (Nat × Nat)} {a : Nat} {S : List Int} (ha : ro a = some 11) (h : zc_kept D RTg ro ms H H') (hm : ∀ y ∈ [(11, 23), (11, 24), (32, 0)], y ∉ ms) (j : jOf D cA ro H a S) : jOf D cA ro H' a S := by
  obtain ⟨ao, zo, n, f1, r1, c1, f2, hn, hz⟩ := j
  exact ⟨ao, zo, n, (h.1 a 11 23 11 0 fsX12 ha rfl (by decide) (hm _ (by decide))).trans f1, r1, (h.2 ao 32 0 0 64 _ r1 rfl (hm _ (by decide))).trans c1, (h.1 a 11 24 11 0 fsX12 ha rfl (by decide) (hm _ (by decide))).trans f2, hn, hz⟩
def adO (S : List Int) (o : Int) : List Int := if o ∈ S then S else S ++ [o]
def aoM : List (Nat × Nat) := [(11, 24), (32, 0)]
set_option maxRecDepth 100000 in
set_option maxHeartbeats 4000000 in
theorem hX12_addOffset (l : Launch) (D : va_G) (cA : Nat → ClassId) (ro : Nat → Option Nat) (sz : Nat) (H0 : Heap) (a : Nat) (o0 : Int32) (S : List Int) (ha : ro a = some 11) (hlt : S.length < 64) (ho1 : -1000000 ≤ o0.toInt) (ho2 : o0.toInt ≤ 1000000) : Met l yX12_addOffset (gW yX12_addOffset cX12_addOffset 3 none) { frames := 0, cells := 0, slots := 0, locals := 0 } (zs_P D cA ro sz H0 (fun H => jOf D cA ro H a S) [.ref a, .int o0]) (fun _ st oc t => oc = .returned none ∧ zh_ok D cA RTg ro sz H0 t.heap [] ∧ zc_kept D RTg ro aoM st.heap t.heap ∧ jOf D cA ro t.heap a (adO S o0.toInt)) 0 0 (zy_fr sz) := by
  refine zy_ofW (cc := cX12_addOffset) (maxL := 3) (ret := none) (by decide +kernel) rfl ?_
  intro p e s m args below meth c s1 B hml hv
  obtain ⟨rfl, hh, hKn, hJ⟩ := hv
  have hx := B.exec
  have hb := B.bytes
  have hr := B.returns
  have hlk := B.notSynchronized
  have hts0 := atoms_spec (ws := gW yX12_addOffset cX12_addOffset 3 none) B.pre
  have h2 : ∀ w ∈ gT, w.before ([.ref a, .int o0] : List Value).toArray s = true := fun w hw => hts0 w (List.mem_cons_of_mem _ hw)
  have hown : s.vm.findClass RX12 = some m.cls := findClass_of_methodNamed B.named
  have hl := lv_entry [.ref a, .int o0] (n := 3) (Nat.le_of_ble_eq_true rfl)
  rw [lg_entry_eq]
  generalize (lg_sl [.ref a, .int o0] ++ List.replicate (3 - (lg_sl [.ref a, .int o0]).length) Slot.unset).toArray = ls at hl ⊢
  have b_o0 := zn_i32 o0
  have hD := zD_all h2 hKn.1
  have hcl11 := fun (idx k : Nat) (t : zt_T) (h : (idx, 11, k) ∈ gfX12) (hk : fsX12[k]? = some t) => zf_clause (ro := ro) (ms := aoM) h2 hown hKn.1 gfX12_ok (by decide +kernel) idx 11 k 11 0 fsX12 t h rfl hk
  have kp0 : zc_kept D RTg ro aoM s.heap s.heap := zc_kept.refl
  obtain ⟨ao, zo, n, f23, rao, cao, f24, hn, hzo⟩ := id hJ
  refine ff_iconst hx hb (eX12_addOffset (0, .iconst 0, 1) (List.mem_of_getElem? (i := 0) rfl)) (by decide) (by decide) (fun v1 e1 => ?_)
  refine lv_istore_n hx hb (eX12_addOffset (1, .istore_n 2, 1) (List.mem_of_getElem? (i := 1) rfl)) rfl hl (by decide) rfl (fun ls2 hl2 => ?_)
  have loop : ∀ (n0 i : Nat) (iv : Int32) (ls : Array Slot), i + n0 = S.length → iv.toInt = (i : Int) → (∀ j : Nat, j < i → S[j]? ≠ some o0.toInt) → lv_has ls 3 [(2, .int iv), (0, .ref a), (1, .int o0)] → W p l e (headSpec (gW yX12_addOffset cX12_addOffset 3 none) { frames := 0, cells := 0, slots := 0, locals := 0 }).room s m ([.ref a, .int o0] : List Value).toArray below meth c s.heap [] 0 0 (MQ below (fun _ st oc t => oc = .returned none ∧ zh_ok D cA RTg ro sz H0 t.heap [] ∧ zc_kept D RTg ro aoM st.heap t.heap ∧ jOf D cA ro t.heap a (adO S o0.toInt)) ([.ref a, .int o0] : List Value).toArray s 0 0 (zy_fr sz)) (F0 m 2 ls []) := by
    intro n0
    induction n0 with
    | zero =>
      intro i iv ls hi hiv hno hl
      refine lv_iload_n hx hb (eX12_addOffset (2, .iload_n 2, 1) (List.mem_of_getElem? (i := 2) rfl)) rfl (lv_at hl 0 rfl) ?_
      refine lv_aload_n hx hb (eX12_addOffset (3, .aload_n 0, 1) (List.mem_of_getElem? (i := 3) rfl)) rfl (lv_at hl 1 rfl) ?_
      refine tz_get (r := 11) (k := 24) (t := (0, 0, 64)) hx hb hh ha rfl rfl (hcl11 236 24 (0, 0, 64) (by decide) rfl).1 f24 (eX12_addOffset (4, .getfield 236, 3) (List.mem_of_getElem? (i := 4) rfl)) ?_
      refine ff_icmp_ge hx hb (eX12_addOffset (7, .if_icmp .ge 20, 3) (List.mem_of_getElem? (i := 5) rfl)) (tgt := 27) rfl (fun c3 => ?_) (fun c3 => (by exfalso; omega))
      refine lv_aload_n hx hb (eX12_addOffset (27, .aload_n 0, 1) (List.mem_of_getElem? (i := 15) rfl)) rfl (lv_at hl 1 rfl) ?_
      refine tz_get (r := 11) (k := 23) (t := (68, 0, 0)) hx hb hh ha rfl rfl (hcl11 47 23 (68, 0, 0) (by decide) rfl).1 f23 (eX12_addOffset (28, .getfield 47, 3) (List.mem_of_getElem? (i := 16) rfl)) ?_
      refine lv_aload_n hx hb (eX12_addOffset (31, .aload_n 0, 1) (List.mem_of_getElem? (i := 17) rfl)) rfl (lv_at hl 1 rfl) ?_
      refine tz_get (r := 11) (k := 24) (t := (0, 0, 64)) hx hb hh ha rfl rfl (hcl11 236 24 (0, 0, 64) (by decide) rfl).1 f24 (eX12_addOffset (32, .getfield 236, 3) (List.mem_of_getElem? (i := 18) rfl)) ?_
      refine lv_iload_n hx hb (eX12_addOffset (35, .iload_n 1, 1) (List.mem_of_getElem? (i := 19) rfl)) rfl (lv_at hl 2 rfl) ?_
      obtain ⟨-, zz4, hcc4, hyy4⟩ := zh_arr hh rao (show RTg[32]? = some (1, 0, 64, [(0, (-1000000), 1000000)]) from rfl)
      refine tz_iast hx hb (zAr hKn.1 0 (by decide)) hh rao (show RTg[32]? = some (1, 0, 64, [(0, (-1000000), 1000000)]) from rfl) cao (zs_arr (cao.symm.trans hcc4) hyy4) (by omega) (by omega) (tz_i (by omega) (by omega)) (eX12_addOffset (36, .iastore, 1) (List.mem_of_getElem? (i := 20) rfl)) (fun H4 lo4 hh4 hc4 hk4 hq4 _ => ?_)
      rw [show n.toNatClampNeg = S.length by show n.toInt.toNat = _; omega] at hc4
      have mf4_a_23 := (hk4.1 a 11 23 11 0 fsX12 ha rfl (by decide) (by decide)).trans f23
      have mf4_a_24 := (hk4.1 a 11 24 11 0 fsX12 ha rfl (by decide) (by decide)).trans f24
      have kp4 := kp0.trans (hk4.mono (ms' := aoM) (fun x hx => by cases List.mem_singleton.mp hx; decide))
      refine lv_aload_n hx hb (eX12_addOffset (37, .aload_n 0, 1) (List.mem_of_getElem? (i := 21) rfl)) rfl (lv_at hl 1 rfl) ?_
      refine lv_dup hx hb (eX12_addOffset (38, .dup, 1) (List.mem_of_getElem? (i := 22) rfl)) rfl ?_
      refine tz_get (r := 11) (k := 24) (t := (0, 0, 64)) hx hb hh4 ha rfl rfl (hcl11 236 24 (0, 0, 64) (by decide) rfl).1 mf4_a_24 (eX12_addOffset (39, .getfield 236, 3) (List.mem_of_getElem? (i := 23) rfl)) ?_
      refine ff_iconst hx hb (eX12_addOffset (42, .iconst 1, 1) (List.mem_of_getElem? (i := 24) rfl)) (by decide) (by decide) (fun v5 e5 => ?_)
      refine ff_iadd hx hb (eX12_addOffset (43, .iadd, 1) (List.mem_of_getElem? (i := 25) rfl)) (by omega) (by omega) (fun v6 e6 => ?_)
      refine tz_put (r := 11) (k := 24) (t := (0, 0, 64)) hx hb hD hh4 ha rfl rfl ((hcl11 236 24 (0, 0, 64) (by decide) rfl).2 (by decide)) (tz_i (by omega) (by omega)) (eX12_addOffset (44, .putfield 236, 3) (List.mem_of_getElem? (i := 26) rfl)) (fun H7 lo7 hh7 hf7 hk7 _ hq7 => ?_)
      have mf7_a_23 := (hk7.1 a 11 23 11 0 fsX12 ha rfl (by decide) (by decide)).trans mf4_a_23
      have mc7_ao := (hk7.2 ao 32 0 0 64 _ rao rfl (by decide)).trans hc4
      have kp7 := kp4.trans (hk7.mono (ms' := aoM) (fun x hx => by cases List.mem_singleton.mp hx; decide))
      have hni : o0.toInt ∉ S := l_nmem (fun j hj => hno j (by omega))
      have hin : adO S o0.toInt = S ++ [o0.toInt] := by unfold adO; rw [if_neg hni]
      exact W.vret hx hb hr (fun t ht hW => ⟨rfl, by rw [ht]; exact hh7.l0, by rw [ht]; exact kp7, by rw [ht, hin]; exact ⟨ao, _, _, mf7_a_23, rao, mc7_ao, hf7, by rw [List.length_append]; show _ = ((S.length + 1 : Nat) : Int); omega, jI_app hzo⟩⟩) hh7.2.2.1 (eX12_addOffset (47, .return_, 1) (List.mem_of_getElem? (i := 27) rfl))
    | succ n0 ih =>
      intro i iv ls hi hiv hno hl
      obtain ⟨wv, hw1, hS1⟩ := hzo i (by omega)
      refine lv_iload_n hx hb (eX12_addOffset (2, .iload_n 2, 1) (List.mem_of_getElem? (i := 2) rfl)) rfl (lv_at hl 0 rfl) ?_
      refine lv_aload_n hx hb (eX12_addOffset (3, .aload_n 0, 1) (List.mem_of_getElem? (i := 3) rfl)) rfl (lv_at hl 1 rfl) ?_
      refine tz_get (r := 11) (k := 24) (t := (0, 0, 64)) hx hb hh ha rfl rfl (hcl11 236 24 (0, 0, 64) (by decide) rfl).1 f24 (eX12_addOffset (4, .getfield 236, 3) (List.mem_of_getElem? (i := 4) rfl)) ?_
      refine ff_icmp_ge hx hb (eX12_addOffset (7, .if_icmp .ge 20, 3) (List.mem_of_getElem? (i := 5) rfl)) (tgt := 27) rfl (fun c8 => (by exfalso; omega)) (fun c8 => ?_)
      refine lv_aload_n hx hb (eX12_addOffset (10, .aload_n 0, 1) (List.mem_of_getElem? (i := 6) rfl)) rfl (lv_at hl 1 rfl) ?_
      refine tz_get (r := 11) (k := 23) (t := (68, 0, 0)) hx hb hh ha rfl rfl (hcl11 47 23 (68, 0, 0) (by decide) rfl).1 f23 (eX12_addOffset (11, .getfield 47, 3) (List.mem_of_getElem? (i := 7) rfl)) ?_
      refine lv_iload_n hx hb (eX12_addOffset (14, .iload_n 2, 1) (List.mem_of_getElem? (i := 8) rfl)) rfl (lv_at hl 0 rfl) ?_
      refine tz_iald hx hb (zAr hKn.1 0 (by decide)) cao (by omega) (by omega) (eX12_addOffset (15, .iaload, 1) (List.mem_of_getElem? (i := 9) rfl)) ?_
      rw [show iv.toNatClampNeg = i by show iv.toInt.toNat = _; omega, hw1]
      refine lv_iload_n hx hb (eX12_addOffset (16, .iload_n 1, 1) (List.mem_of_getElem? (i := 10) rfl)) rfl (lv_at hl 2 rfl) ?_
      refine ff_icmp_ne hx hb (eX12_addOffset (17, .if_icmp .ne 4, 3) (List.mem_of_getElem? (i := 11) rfl)) (tgt := 21) rfl (fun c9 => ?_) (fun c9 => ?_)
      · skip
        refine ff_iinc (k := 0) hx hb (eX12_addOffset (21, .iinc 2 1, 3) (List.mem_of_getElem? (i := 13) rfl)) hl rfl (by decide) (by decide) (by decide) (by omega) (by omega) (fun v10 e10 ls10 hl10 => ?_)
        refine lv_goto hx hb (eX12_addOffset (24, .goto (-22), 3) (List.mem_of_getElem? (i := 14) rfl)) (tgt := 2) rfl ?_
        exact ih (i + 1) v10 ls10 (by omega) (by omega) (fun j hj => by by_cases e9 : j = i; (rw [e9, hS1]; intro g9; have g8 := Option.some.inj g9; omega); exact hno j (by omega)) (lv_sub hl10 [0, 1, 2] rfl)
      · skip
        have hin : adO S o0.toInt = S := by unfold adO; rw [if_pos (List.mem_of_getElem? (by rw [hS1, show wv.toInt = o0.toInt by omega] : S[i]? = some o0.toInt))]
        exact W.vret hx hb hr (fun t ht hW => ⟨rfl, by rw [ht]; exact hh.l0, by rw [ht]; exact kp0, by rw [ht, hin]; exact hJ⟩) hh.2.2.1 (eX12_addOffset (20, .return_, 1) (List.mem_of_getElem? (i := 12) rfl))
  exact loop S.length 0 v1 ls2 (by omega) (by omega) (fun j hj => absurd hj (Nat.not_lt_zero _)) (lv_sub hl2 [0, 1, 2] rfl)
theorem od_fold : ∀ (l S : List Int), odG S l = l.foldl adO S := by
  intro l
  induction l with
  | nil => intro S; rfl
  | cons o t ih => intro S; exact ih (adO S o)
theorem ad_len {S : List Int} {o : Int} : (adO S o).length ≤ S.length + 1 := by
  unfold adO
  split
  · omega
  · rw [List.length_append]; exact Nat.le_refl _
theorem fad_len : ∀ (l S : List Int), (l.foldl adO S).length ≤ S.length + l.length := by
  intro l
  induction l with
  | nil => intro S; exact Nat.le_refl _
  | cons o t ih =>
    intro S
    have h1 := ih (adO S o)
    have h2 := ad_len (S := S) (o := o)
    show (t.foldl adO (adO S o)).length ≤ S.length + (t.length + 1)
    omega
theorem fad_take {l : List Int} {k : Nat} (h : k ≤ 62) : ((l.take k).foldl adO []).length < 64 := by
  have := fad_len (l.take k) []
  rw [List.length_take] at this
  have h0 : ([] : List Int).length = 0 := rfl
  omega
set_option maxRecDepth 100000 in
set_option maxHeartbeats 4000000 in
theorem hX12_listOffsets (l : Launch) (D : va_G) (cA : Nat → ClassId) (ro : Nat → Option Nat) (sz : Nat) (H0 : Heap) (a : Nat) (zi : Int32) (L : List Int) (Z : List zE) (R : List rU) (i0 : Nat) (ze : zE) (rr : rU) (ha : ro a = some 11) (hi0 : zi.toInt = (i0 : Int)) (hze : Z[i0]? = some ze) (hrr : R[i0]? = some rr) : Met l yX12_listOffsets (gW yX12_listOffsets cX12_listOffsets 3 none) { frames := 1, cells := 0, slots := 0, locals := 22 } (zs_P D cA ro sz H0 (fun H => jRY D cA ro H a L (Z, R)) [.ref a, .int zi]) (fun _ st oc t => oc = .returned none ∧ zh_ok D cA RTg ro sz H0 t.heap [] ∧ zc_kept D RTg ro aoM st.heap t.heap ∧ jOf D cA ro t.heap a (odG [] (ofsL ze rr))) 0 0 (zy_fr sz) := by
  refine zy_ofW (cc := cX12_listOffsets) (maxL := 3) (ret := none) (by decide +kernel) rfl ?_
  intro p e s m args below meth c s1 B hml hv
  obtain ⟨rfl, hh, hKn, hJ⟩ := hv
  have hx := B.exec
  have hb := B.bytes
  have hr := B.returns
  have hlk := B.notSynchronized
  have hts0 := atoms_spec (ws := gW yX12_listOffsets cX12_listOffsets 3 none) B.pre
  have h2 : ∀ w ∈ gT, w.before ([.ref a, .int zi] : List Value).toArray s = true := fun w hw => hts0 w (List.mem_cons_of_mem _ hw)
  have hown : s.vm.findClass RX12 = some m.cls := findClass_of_methodNamed B.named
  have hl := lv_entry [.ref a, .int zi] (n := 3) (Nat.le_of_ble_eq_true rfl)
  rw [lg_entry_eq]
  generalize (lg_sl [.ref a, .int zi] ++ List.replicate (3 - (lg_sl [.ref a, .int zi]).length) Slot.unset).toArray = ls at hl ⊢
  have b_zi := zn_i32 zi
  have hD := zD_all h2 hKn.1
  have hcl11 := fun (idx k : Nat) (t : zt_T) (h : (idx, 11, k) ∈ gfX12) (hk : fsX12[k]? = some t) => zf_clause (ro := ro) (ms := aoM) h2 hown hKn.1 gfX12_ok (by decide +kernel) idx 11 k 11 0 fsX12 t h rfl hk
  have kp0 : zc_kept D RTg ro aoM s.heap s.heap := zc_kept.refl
  obtain ⟨hJz, hJq, hRl, hsr⟩ := id hJ
  have hJz : jRZ D cA ro s.heap a L Z := hJz
  have hJq : jRQ D cA ro s.heap a R := hJq
  have hRl : R.length = Z.length := hRl
  have hsr : ∀ e ∈ Z, srt e.2 := hsr
  obtain ⟨⟨la, n, z, fq2, r0, fq1, hn, hc, hz⟩, ⟨a4, a5, a6, a7, zq4, zq5, zq6, zq7, nz, ⟨fq4, rq4, cq4⟩, ⟨fq5, rq5, cq5⟩, ⟨fq6, rq6, cq6⟩, ⟨fq7, rq7, cq7⟩, fq3, hnz, hp⟩, hjl, hzw⟩ := id hJz
  have hjr := hJz.1
  have hjL := hjl.2.1
  have hzw1 := hzw.1
  obtain ⟨n9, g9, n1, n2⟩ := zh_fT (k := 1) (t := (0, 0, 40)) hh ha (show RTg[11]? = some (0, 11, 0, fsX12) from rfl) rfl
  cases fq1.symm.trans g9
  dsimp only at n1 n2
  clear g9
  obtain ⟨n9, g9, nz1, nz2⟩ := zh_fT (k := 3) (t := (0, 0, 8)) hh ha (show RTg[11]? = some (0, 11, 0, fsX12) from rfl) rfl
  cases fq3.symm.trans g9
  dsimp only at nz1 nz2
  clear g9
  obtain ⟨-, xla, dla, hla⟩ := zh_arr hh r0 (show RTg[21]? = some (1, 1, 40, [(1, (-9223372036854775808), 9223372036854775807)]) from rfl)
  have hyla : ∀ i, i < 40 → zt_ok ro (z i) (1, (-9223372036854775808), 9223372036854775807) := zs_arr (hc.symm.trans dla) hla
  obtain ⟨-, xa4, da4, ha4⟩ := zh_arr hh rq4 (show RTg[22]? = some (1, 0, 8, [(0, (-1439), 1439)]) from rfl)
  have hya4 : ∀ i, i < 8 → zt_ok ro (zq4 i) (0, (-1439), 1439) := zs_arr (cq4.symm.trans da4) ha4
  obtain ⟨-, xa5, da5, ha5⟩ := zh_arr hh rq5 (show RTg[23]? = some (1, 0, 8, [(0, 0, 60)]) from rfl)
  have hya5 : ∀ i, i < 8 → zt_ok ro (zq5 i) (0, 0, 60) := zs_arr (cq5.symm.trans da5) ha5
  obtain ⟨-, xa6, da6, ha6⟩ := zh_arr hh rq6 (show RTg[24]? = some (1, 1, 480, [(1, (-100000000000000), 100000000000000)]) from rfl)
  have hya6 : ∀ i, i < 480 → zt_ok ro (zq6 i) (1, (-100000000000000), 100000000000000) := zs_arr (cq6.symm.trans da6) ha6
  obtain ⟨-, xa7, da7, ha7⟩ := zh_arr hh rq7 (show RTg[25]? = some (1, 0, 480, [(0, (-1439), 1439)]) from rfl)
  have hya7 : ∀ i, i < 480 → zt_ok ro (zq7 i) (0, (-1439), 1439) := zs_arr (cq7.symm.trans da7) ha7
  obtain ⟨b8, b9, bA, bB, z8, z9, zA, zB, ⟨fq8, rq8, cq8⟩, ⟨fq9, rq9, cq9⟩, ⟨fqA, rqA, cqA⟩, ⟨fqB, rqB, cqB⟩, hrp, hrw⟩ := id hJq
  obtain ⟨-, xb8, db8, hb8⟩ := zh_arr hh rq8 (show RTg[26]? = some (1, 0, 8, [(0, 0, 2)]) from rfl)
  have hyb8 : ∀ i, i < 8 → zt_ok ro (z8 i) (0, 0, 2) := zs_arr (cq8.symm.trans db8) hb8
  obtain ⟨-, xb9, db9, hb9⟩ := zh_arr hh rq9 (show RTg[27]? = some (1, 0, 8, [(0, (-1000000), 1000000)]) from rfl)
  have hyb9 : ∀ i, i < 8 → zt_ok ro (z9 i) (0, (-1000000), 1000000) := zs_arr (cq9.symm.trans db9) hb9
  obtain ⟨-, xbA, dbA, hbA⟩ := zh_arr hh rqA (show RTg[28]? = some (1, 0, 8, [(0, (-1000000), 1000000)]) from rfl)
  have hybA : ∀ i, i < 8 → zt_ok ro (zA i) (0, (-1000000), 1000000) := zs_arr (cqA.symm.trans dbA) hbA
  obtain ⟨-, xbB, dbB, hbB⟩ := zh_arr hh rqB (show RTg[29]? = some (1, 0, 80, [(0, (-1000000), 1000000)]) from rfl)
  have hybB : ∀ i, i < 80 → zt_ok ro (zB i) (0, (-1000000), 1000000) := zs_arr (cqB.symm.trans dbB) hbB
  have hlt := (List.getElem?_eq_some_iff.mp hze).1
  have hle := hzw.2 ze (List.mem_of_getElem? hze)
  obtain ⟨⟨k4, ez4, hk4⟩, ⟨nc, ez5, hnc⟩, hcN⟩ := hp i0 ze hze
  obtain ⟨⟨nn, ez8, hnn⟩, hz9, hzA⟩ := hrp i0 rr hrr
  have hwr := hrw rr (List.mem_of_getElem? hrr)
  have hwN := hwr.1
  have hwC := hwr.2.1
  refine lv_aload_n hx hb (eX12_listOffsets (0, .aload_n 0, 1) (List.mem_of_getElem? (i := 0) rfl)) rfl (lv_at hl 0 rfl) ?_
  refine ff_iconst hx hb (eX12_listOffsets (1, .iconst 0, 1) (List.mem_of_getElem? (i := 1) rfl)) (by decide) (by decide) (fun v1 e1 => ?_)
  refine tz_put (r := 11) (k := 24) (t := (0, 0, 64)) hx hb hD hh ha rfl rfl ((hcl11 236 24 (0, 0, 64) (by decide) rfl).2 (by decide)) (tz_i (by omega) (by omega)) (eX12_listOffsets (2, .putfield 236, 3) (List.mem_of_getElem? (i := 2) rfl)) (fun H2 lo2 hh2 hf2 hk2 _ hq2 => ?_)
  have mf2_a_2 := (hk2.1 a 11 2 11 0 fsX12 ha rfl (by decide) (by decide)).trans fq2
  have mf2_a_1 := (hk2.1 a 11 1 11 0 fsX12 ha rfl (by decide) (by decide)).trans fq1
  have mf2_a_3 := (hk2.1 a 11 3 11 0 fsX12 ha rfl (by decide) (by decide)).trans fq3
  have mf2_a_4 := (hk2.1 a 11 4 11 0 fsX12 ha rfl (by decide) (by decide)).trans fq4
  have mf2_a_5 := (hk2.1 a 11 5 11 0 fsX12 ha rfl (by decide) (by decide)).trans fq5
  have mf2_a_6 := (hk2.1 a 11 6 11 0 fsX12 ha rfl (by decide) (by decide)).trans fq6
  have mf2_a_7 := (hk2.1 a 11 7 11 0 fsX12 ha rfl (by decide) (by decide)).trans fq7
  have mf2_a_8 := (hk2.1 a 11 8 11 0 fsX12 ha rfl (by decide) (by decide)).trans fq8
  have mf2_a_9 := (hk2.1 a 11 9 11 0 fsX12 ha rfl (by decide) (by decide)).trans fq9
  have mf2_a_10 := (hk2.1 a 11 10 11 0 fsX12 ha rfl (by decide) (by decide)).trans fqA
  have mf2_a_11 := (hk2.1 a 11 11 11 0 fsX12 ha rfl (by decide) (by decide)).trans fqB
  have mc2_la := (hk2.2 la 21 0 1 40 _ r0 rfl (by decide)).trans hc
  have mc2_a4 := (hk2.2 a4 22 0 0 8 _ rq4 rfl (by decide)).trans cq4
  have mc2_a5 := (hk2.2 a5 23 0 0 8 _ rq5 rfl (by decide)).trans cq5
  have mc2_a6 := (hk2.2 a6 24 0 1 480 _ rq6 rfl (by decide)).trans cq6
  have mc2_a7 := (hk2.2 a7 25 0 0 480 _ rq7 rfl (by decide)).trans cq7
  have mc2_b8 := (hk2.2 b8 26 0 0 8 _ rq8 rfl (by decide)).trans cq8
  have mc2_b9 := (hk2.2 b9 27 0 0 8 _ rq9 rfl (by decide)).trans cq9
  have mc2_bA := (hk2.2 bA 28 0 0 8 _ rqA rfl (by decide)).trans cqA
  have mc2_bB := (hk2.2 bB 29 0 0 80 _ rqB rfl (by decide)).trans cqB
  have kp2 := kp0.trans (hk2.mono (ms' := aoM) (fun x hx => by cases List.mem_singleton.mp hx; decide))
  obtain ⟨ao, fao, rao⟩ := tz_ref (k := 23) (rr := 32) hh2 ha (show RTg[11]? = some (0, 11, 0, fsX12) from rfl) rfl
  obtain ⟨-, zo, cao, -⟩ := zh_arr hh2 rao (show RTg[32]? = some (1, 0, 64, [(0, (-1000000), 1000000)]) from rfl)
  have jo0 : jOf D cA ro H2 a (((ofsL ze rr).take 0).foldl adO []) := ⟨ao, zo, _, fao, rao, cao, hf2, by rw [List.take_zero]; show _ = ((0 : Nat) : Int); omega, fun i hi => by rw [List.take_zero] at hi; exact absurd hi (Nat.not_lt_zero _)⟩
  refine lv_aload_n hx hb (eX12_listOffsets (5, .aload_n 0, 1) (List.mem_of_getElem? (i := 3) rfl)) rfl (lv_at hl 0 rfl) ?_
  refine lv_aload_n hx hb (eX12_listOffsets (6, .aload_n 0, 1) (List.mem_of_getElem? (i := 4) rfl)) rfl (lv_at hl 0 rfl) ?_
  refine tz_get (r := 11) (k := 4) (t := (48, 0, 0)) hx hb hh2 ha rfl rfl (hcl11 15 4 (48, 0, 0) (by decide) rfl).1 mf2_a_4 (eX12_listOffsets (7, .getfield 15, 3) (List.mem_of_getElem? (i := 5) rfl)) ?_
  refine lv_iload_n hx hb (eX12_listOffsets (10, .iload_n 1, 1) (List.mem_of_getElem? (i := 6) rfl)) rfl (lv_at hl 1 rfl) ?_
  refine tz_iald hx hb (zAr hKn.1 0 (by decide)) mc2_a4 (by omega) (by omega) (eX12_listOffsets (11, .iaload, 1) (List.mem_of_getElem? (i := 7) rfl)) ?_
  rw [show zi.toNatClampNeg = i0 by show zi.toInt.toNat = _; omega, ez4]
  have hbk4 : -1439 ≤ k4.toInt ∧ k4.toInt ≤ 1439 := by obtain ⟨y9, g9, g8, g7⟩ := hya4 i0 (by omega); cases ez4.symm.trans g9; exact ⟨g8, g7⟩
  refine tz_rowV (As := [.int k4]) (st := []) (b := a) (C := RX12) (Ts := gT) hx hb hml hown h2 (fun _ h => h) (hX12_addOffset l D cA ro sz H0 a k4 (((ofsL ze rr).take 0).foldl adO []) ha (fad_take (by omega)) (by omega) (by omega)) ⟨rfl, rfl⟩ ⟨by decide, by decide⟩ ⟨by decide, by decide⟩ (tb_7 194 rfl rfl) (tb_1 12 rfl rfl) (tb_7 191 rfl rfl) (tb_7 193 rfl rfl) (tb_0 21 rfl rfl) (show yX12_addOffset.cls ≠ "java/lang/invoke/MethodHandle" ∧ yX12_addOffset.cls ≠ "java/lang/invoke/VarHandle" ∧ (parseMethodDescriptor yX12_addOffset.desc).map (fun d => d.parameters.length) = some 1 by decide +kernel) zs_blind (zs_ob hh2 ha (show RTg[11]? = some (0, 11, 0, fsX12) from rfl) (zCX12 hKn.1)) (fun U hU hW => ⟨rfl, by rw [hU]; exact hh2.l0, zKb s U hW.alike hKn, by rw [hU]; exact jo0⟩) hh2.2.2.1 hl.1 (Nat.le_of_ble_eq_true rfl) (eX12_listOffsets (12, .invokevirtual 239, 3) (List.mem_of_getElem? (i := 8) rfl)) (fun r3 s3 t3 lo3 g3 f3 l3 => ?_)
  obtain ⟨q3, z3, c3, jo3⟩ := f3
  cases q3
  rw [g3] at c3
  have hh3 : zh_ok D cA RTg ro sz H0 t3.heap lo3 := ⟨z3.1, z3.2.1, l3, z3.2.2.2⟩
  have kp3 := kp2.trans (c3.mono (ms' := aoM) (by decide))
  rw [show k4.toInt = ze.1 from hk4, ← fold_take (f := adO) (b := []) (ofsL_first ze rr)] at jo3
  have mf3_a_2 := (c3.1 a 11 2 11 0 fsX12 ha rfl (by decide) (by decide)).trans mf2_a_2
  have mf3_a_1 := (c3.1 a 11 1 11 0 fsX12 ha rfl (by decide) (by decide)).trans mf2_a_1
  have mf3_a_3 := (c3.1 a 11 3 11 0 fsX12 ha rfl (by decide) (by decide)).trans mf2_a_3
  have mf3_a_4 := (c3.1 a 11 4 11 0 fsX12 ha rfl (by decide) (by decide)).trans mf2_a_4
  have mf3_a_5 := (c3.1 a 11 5 11 0 fsX12 ha rfl (by decide) (by decide)).trans mf2_a_5
  have mf3_a_6 := (c3.1 a 11 6 11 0 fsX12 ha rfl (by decide) (by decide)).trans mf2_a_6
  have mf3_a_7 := (c3.1 a 11 7 11 0 fsX12 ha rfl (by decide) (by decide)).trans mf2_a_7
  have mf3_a_8 := (c3.1 a 11 8 11 0 fsX12 ha rfl (by decide) (by decide)).trans mf2_a_8
  have mf3_a_9 := (c3.1 a 11 9 11 0 fsX12 ha rfl (by decide) (by decide)).trans mf2_a_9
  have mf3_a_10 := (c3.1 a 11 10 11 0 fsX12 ha rfl (by decide) (by decide)).trans mf2_a_10
  have mf3_a_11 := (c3.1 a 11 11 11 0 fsX12 ha rfl (by decide) (by decide)).trans mf2_a_11
  have mc3_la := (c3.2 la 21 0 1 40 _ r0 rfl (by decide)).trans mc2_la
  have mc3_a4 := (c3.2 a4 22 0 0 8 _ rq4 rfl (by decide)).trans mc2_a4
  have mc3_a5 := (c3.2 a5 23 0 0 8 _ rq5 rfl (by decide)).trans mc2_a5
  have mc3_a6 := (c3.2 a6 24 0 1 480 _ rq6 rfl (by decide)).trans mc2_a6
  have mc3_a7 := (c3.2 a7 25 0 0 480 _ rq7 rfl (by decide)).trans mc2_a7
  have mc3_b8 := (c3.2 b8 26 0 0 8 _ rq8 rfl (by decide)).trans mc2_b8
  have mc3_b9 := (c3.2 b9 27 0 0 8 _ rq9 rfl (by decide)).trans mc2_b9
  have mc3_bA := (c3.2 bA 28 0 0 8 _ rqA rfl (by decide)).trans mc2_bA
  have mc3_bB := (c3.2 bB 29 0 0 80 _ rqB rfl (by decide)).trans mc2_bB
  refine W.eq (g2 := F0 m 15 ls []) rfl ?_
  refine ff_bipush hx hb (eX12_listOffsets (15, .bipush 60, 2) (List.mem_of_getElem? (i := 9) rfl)) (by decide) (by decide) (fun v4 e4 => ?_)
  refine lv_iload_n hx hb (eX12_listOffsets (17, .iload_n 1, 1) (List.mem_of_getElem? (i := 10) rfl)) rfl (lv_at hl 1 rfl) ?_
  refine ff_imulL hx hb (eX12_listOffsets (18, .imul, 1) (List.mem_of_getElem? (i := 11) rfl)) (e4) (by omega) (by omega) (fun v5 e5 => ?_)
  refine lv_istore_n hx hb (eX12_listOffsets (19, .istore_n 2, 1) (List.mem_of_getElem? (i := 12) rfl)) rfl hl (by decide) rfl (fun ls6 hl6 => ?_)
  have loop : ∀ (n0 i : Nat) (iv : Int32) (ls : Array Slot) (H : Heap) (lo0 : List Loc), i + n0 = ze.2.length → iv.toInt = 60 * (i0 : Int) + (i : Int) → zh_ok D cA RTg ro sz H0 H lo0 → zc_kept D RTg ro aoM s.heap H → jOf D cA ro H a (((ofsL ze rr).take (i + 1)).foldl adO []) → zh_f D H a 11 5 = .ref a5 → zh_f D H a 11 7 = .ref a7 → zh_f D H a 11 8 = .ref b8 → zh_f D H a 11 9 = .ref b9 → zh_f D H a 11 10 = .ref bA → H[a5]? = some (arrV (cA 0) 8 zq5) → H[a7]? = some (arrV (cA 0) 480 zq7) → H[b8]? = some (arrV (cA 0) 8 z8) → H[b9]? = some (arrV (cA 0) 8 z9) → H[bA]? = some (arrV (cA 0) 8 zA) → lv_has ls 3 [(2, .int iv), (0, .ref a), (1, .int zi)] → W p l e (headSpec (gW yX12_listOffsets cX12_listOffsets 3 none) { frames := 1, cells := 0, slots := 0, locals := 22 }).room s m ([.ref a, .int zi] : List Value).toArray below meth c H lo0 0 0 (MQ below (fun _ st oc t => oc = .returned none ∧ zh_ok D cA RTg ro sz H0 t.heap [] ∧ zc_kept D RTg ro aoM st.heap t.heap ∧ jOf D cA ro t.heap a (odG [] (ofsL ze rr))) ([.ref a, .int zi] : List Value).toArray s 0 0 (zy_fr sz)) (F0 m 20 ls []) := by
    intro n0
    induction n0 with
    | zero =>
      intro i iv ls H lo0 hi hiv hh0 kpl jol g5 g7 g8 g9 gA k5 k7 k8 k9 kA hl
      refine lv_iload_n hx hb (eX12_listOffsets (20, .iload_n 2, 1) (List.mem_of_getElem? (i := 13) rfl)) rfl (lv_at hl 0 rfl) ?_
      refine ff_bipush hx hb (eX12_listOffsets (21, .bipush 60, 2) (List.mem_of_getElem? (i := 14) rfl)) (by decide) (by decide) (fun v7 e7 => ?_)
      refine lv_iload_n hx hb (eX12_listOffsets (23, .iload_n 1, 1) (List.mem_of_getElem? (i := 15) rfl)) rfl (lv_at hl 2 rfl) ?_
      refine ff_imulL hx hb (eX12_listOffsets (24, .imul, 1) (List.mem_of_getElem? (i := 16) rfl)) (e7) (by omega) (by omega) (fun v8 e8 => ?_)
      refine lv_aload_n hx hb (eX12_listOffsets (25, .aload_n 0, 1) (List.mem_of_getElem? (i := 17) rfl)) rfl (lv_at hl 1 rfl) ?_
      refine tz_get (r := 11) (k := 5) (t := (50, 0, 0)) hx hb hh0 ha rfl rfl (hcl11 19 5 (50, 0, 0) (by decide) rfl).1 g5 (eX12_listOffsets (26, .getfield 19, 3) (List.mem_of_getElem? (i := 18) rfl)) ?_
      refine lv_iload_n hx hb (eX12_listOffsets (29, .iload_n 1, 1) (List.mem_of_getElem? (i := 19) rfl)) rfl (lv_at hl 2 rfl) ?_
      refine tz_iald hx hb (zAr hKn.1 0 (by decide)) k5 (by omega) (by omega) (eX12_listOffsets (30, .iaload, 1) (List.mem_of_getElem? (i := 20) rfl)) ?_
      rw [show zi.toNatClampNeg = i0 by show zi.toInt.toNat = _; omega, ez5]
      refine ff_iadd hx hb (eX12_listOffsets (31, .iadd, 1) (List.mem_of_getElem? (i := 21) rfl)) (by omega) (by omega) (fun v9 e9 => ?_)
      refine ff_icmp_ge hx hb (eX12_listOffsets (32, .if_icmp .ge 19, 3) (List.mem_of_getElem? (i := 22) rfl)) (tgt := 51) rfl (fun c10 => ?_) (fun c10 => (by exfalso; omega))
      rw [show i = ze.2.length by omega] at jol
      refine lv_aload_n hx hb (eX12_listOffsets (51, .aload_n 0, 1) (List.mem_of_getElem? (i := 31) rfl)) rfl (lv_at hl 1 rfl) ?_
      refine tz_get (r := 11) (k := 8) (t := (56, 0, 0)) hx hb hh0 ha rfl rfl (hcl11 28 8 (56, 0, 0) (by decide) rfl).1 g8 (eX12_listOffsets (52, .getfield 28, 3) (List.mem_of_getElem? (i := 32) rfl)) ?_
      refine lv_iload_n hx hb (eX12_listOffsets (55, .iload_n 1, 1) (List.mem_of_getElem? (i := 33) rfl)) rfl (lv_at hl 2 rfl) ?_
      refine tz_iald hx hb (zAr hKn.1 0 (by decide)) k8 (by omega) (by omega) (eX12_listOffsets (56, .iaload, 1) (List.mem_of_getElem? (i := 34) rfl)) ?_
      rw [show zi.toNatClampNeg = i0 by show zi.toInt.toNat = _; omega, ez8]
      refine ff_if_le hx hb (eX12_listOffsets (57, .ifCond .le 13, 3) (List.mem_of_getElem? (i := 35) rfl)) (tgt := 70) rfl (fun c11 => ?_) (fun c11 => ?_)
      · skip
        refine lv_aload_n hx hb (eX12_listOffsets (70, .aload_n 0, 1) (List.mem_of_getElem? (i := 42) rfl)) rfl (lv_at hl 1 rfl) ?_
        refine tz_get (r := 11) (k := 8) (t := (56, 0, 0)) hx hb hh0 ha rfl rfl (hcl11 28 8 (56, 0, 0) (by decide) rfl).1 g8 (eX12_listOffsets (71, .getfield 28, 3) (List.mem_of_getElem? (i := 43) rfl)) ?_
        refine lv_iload_n hx hb (eX12_listOffsets (74, .iload_n 1, 1) (List.mem_of_getElem? (i := 44) rfl)) rfl (lv_at hl 2 rfl) ?_
        refine tz_iald hx hb (zAr hKn.1 0 (by decide)) k8 (by omega) (by omega) (eX12_listOffsets (75, .iaload, 1) (List.mem_of_getElem? (i := 45) rfl)) ?_
        rw [show zi.toNatClampNeg = i0 by show zi.toInt.toNat = _; omega, ez8]
        refine ff_iconst hx hb (eX12_listOffsets (76, .iconst 1, 1) (List.mem_of_getElem? (i := 46) rfl)) (by decide) (by decide) (fun v12 e12 => ?_)
        refine ff_icmp_le hx hb (eX12_listOffsets (77, .if_icmp .le 13, 3) (List.mem_of_getElem? (i := 47) rfl)) (tgt := 90) rfl (fun c13 => ?_) (fun c13 => (by exfalso; omega))
        have hol := ofsL_len (e := ze) (r := rr) hwN hwC
        rw [List.take_of_length_le (by omega)] at jol
        exact W.vret hx hb hr (fun t ht hW => ⟨rfl, by rw [ht]; exact hh0.l0, by rw [ht]; exact kpl, by rw [ht, od_fold]; exact jol⟩) hh0.2.2.1 (eX12_listOffsets (90, .return_, 1) (List.mem_of_getElem? (i := 54) rfl))
      · skip
        refine lv_aload_n hx hb (eX12_listOffsets (60, .aload_n 0, 1) (List.mem_of_getElem? (i := 36) rfl)) rfl (lv_at hl 1 rfl) ?_
        refine lv_aload_n hx hb (eX12_listOffsets (61, .aload_n 0, 1) (List.mem_of_getElem? (i := 37) rfl)) rfl (lv_at hl 1 rfl) ?_
        refine tz_get (r := 11) (k := 9) (t := (58, 0, 0)) hx hb hh0 ha rfl rfl (hcl11 31 9 (58, 0, 0) (by decide) rfl).1 g9 (eX12_listOffsets (62, .getfield 31, 3) (List.mem_of_getElem? (i := 38) rfl)) ?_
        refine lv_iload_n hx hb (eX12_listOffsets (65, .iload_n 1, 1) (List.mem_of_getElem? (i := 39) rfl)) rfl (lv_at hl 2 rfl) ?_
        refine tz_iald hx hb (zAr hKn.1 0 (by decide)) k9 (by omega) (by omega) (eX12_listOffsets (66, .iaload, 1) (List.mem_of_getElem? (i := 40) rfl)) ?_
        obtain ⟨na, ez9, hna⟩ := hz9 (by omega)
        rw [show zi.toNatClampNeg = i0 by show zi.toInt.toNat = _; omega, ez9]
        have hbna : -1439 ≤ na.toInt ∧ na.toInt ≤ 1439 := by rw [hna]; exact hwr.2.2.1 (by omega)
        refine tz_rowV (As := [.int na]) (st := []) (b := a) (C := RX12) (Ts := gT) hx hb hml hown h2 (fun _ h => h) (hX12_addOffset l D cA ro sz H0 a na (((ofsL ze rr).take (ze.2.length + 1)).foldl adO []) ha (fad_take (by omega)) (by omega) (by omega)) ⟨rfl, rfl⟩ ⟨by decide, by decide⟩ ⟨by decide, by decide⟩ (tb_7 194 rfl rfl) (tb_1 12 rfl rfl) (tb_7 191 rfl rfl) (tb_7 193 rfl rfl) (tb_0 21 rfl rfl) (show yX12_addOffset.cls ≠ "java/lang/invoke/MethodHandle" ∧ yX12_addOffset.cls ≠ "java/lang/invoke/VarHandle" ∧ (parseMethodDescriptor yX12_addOffset.desc).map (fun d => d.parameters.length) = some 1 by decide +kernel) zs_blind (zs_ob hh0 ha (show RTg[11]? = some (0, 11, 0, fsX12) from rfl) (zCX12 hKn.1)) (fun U hU hW => ⟨rfl, by rw [hU]; exact hh0.l0, zKb s U hW.alike hKn, by rw [hU]; exact jol⟩) hh0.2.2.1 hl.1 (Nat.le_of_ble_eq_true rfl) (eX12_listOffsets (67, .invokevirtual 239, 3) (List.mem_of_getElem? (i := 41) rfl)) (fun r14 s14 t14 lo14 g14 f14 l14 => ?_)
        obtain ⟨q14, z14, c14, jo14⟩ := f14
        cases q14
        rw [g14] at c14
        have hh14 : zh_ok D cA RTg ro sz H0 t14.heap lo14 := ⟨z14.1, z14.2.1, l14, z14.2.2.2⟩
        have kp14 := kpl.trans (c14.mono (ms' := aoM) (by decide))
        rw [show na.toInt = rr.2.1 from hna, ← fold_take (f := adO) (b := []) (ofsL_r1 (e := ze) (r := rr) (by omega))] at jo14
        have mf14_a_5 := (c14.1 a 11 5 11 0 fsX12 ha rfl (by decide) (by decide)).trans g5
        have mf14_a_7 := (c14.1 a 11 7 11 0 fsX12 ha rfl (by decide) (by decide)).trans g7
        have mf14_a_8 := (c14.1 a 11 8 11 0 fsX12 ha rfl (by decide) (by decide)).trans g8
        have mf14_a_9 := (c14.1 a 11 9 11 0 fsX12 ha rfl (by decide) (by decide)).trans g9
        have mf14_a_10 := (c14.1 a 11 10 11 0 fsX12 ha rfl (by decide) (by decide)).trans gA
        have mc14_a5 := (c14.2 a5 23 0 0 8 _ rq5 rfl (by decide)).trans k5
        have mc14_a7 := (c14.2 a7 25 0 0 480 _ rq7 rfl (by decide)).trans k7
        have mc14_b8 := (c14.2 b8 26 0 0 8 _ rq8 rfl (by decide)).trans k8
        have mc14_b9 := (c14.2 b9 27 0 0 8 _ rq9 rfl (by decide)).trans k9
        have mc14_bA := (c14.2 bA 28 0 0 8 _ rqA rfl (by decide)).trans kA
        refine W.eq (g2 := F0 m 70 ls []) rfl ?_
        refine lv_aload_n hx hb (eX12_listOffsets (70, .aload_n 0, 1) (List.mem_of_getElem? (i := 42) rfl)) rfl (lv_at hl 1 rfl) ?_
        refine tz_get (r := 11) (k := 8) (t := (56, 0, 0)) hx hb hh14 ha rfl rfl (hcl11 28 8 (56, 0, 0) (by decide) rfl).1 mf14_a_8 (eX12_listOffsets (71, .getfield 28, 3) (List.mem_of_getElem? (i := 43) rfl)) ?_
        refine lv_iload_n hx hb (eX12_listOffsets (74, .iload_n 1, 1) (List.mem_of_getElem? (i := 44) rfl)) rfl (lv_at hl 2 rfl) ?_
        refine tz_iald hx hb (zAr hKn.1 0 (by decide)) mc14_b8 (by omega) (by omega) (eX12_listOffsets (75, .iaload, 1) (List.mem_of_getElem? (i := 45) rfl)) ?_
        rw [show zi.toNatClampNeg = i0 by show zi.toInt.toNat = _; omega, ez8]
        refine ff_iconst hx hb (eX12_listOffsets (76, .iconst 1, 1) (List.mem_of_getElem? (i := 46) rfl)) (by decide) (by decide) (fun v15 e15 => ?_)
        refine ff_icmp_le hx hb (eX12_listOffsets (77, .if_icmp .le 13, 3) (List.mem_of_getElem? (i := 47) rfl)) (tgt := 90) rfl (fun c16 => ?_) (fun c16 => ?_)
        · skip
          have hol := ofsL_len (e := ze) (r := rr) hwN hwC
          rw [List.take_of_length_le (by omega)] at jo14
          exact W.vret hx hb hr (fun t ht hW => ⟨rfl, by rw [ht]; exact hh14.l0, by rw [ht]; exact kp14, by rw [ht, od_fold]; exact jo14⟩) hh14.2.2.1 (eX12_listOffsets (90, .return_, 1) (List.mem_of_getElem? (i := 54) rfl))
        · skip
          refine lv_aload_n hx hb (eX12_listOffsets (80, .aload_n 0, 1) (List.mem_of_getElem? (i := 48) rfl)) rfl (lv_at hl 1 rfl) ?_
          refine lv_aload_n hx hb (eX12_listOffsets (81, .aload_n 0, 1) (List.mem_of_getElem? (i := 49) rfl)) rfl (lv_at hl 1 rfl) ?_
          refine tz_get (r := 11) (k := 10) (t := (60, 0, 0)) hx hb hh14 ha rfl rfl (hcl11 34 10 (60, 0, 0) (by decide) rfl).1 mf14_a_10 (eX12_listOffsets (82, .getfield 34, 3) (List.mem_of_getElem? (i := 50) rfl)) ?_
          refine lv_iload_n hx hb (eX12_listOffsets (85, .iload_n 1, 1) (List.mem_of_getElem? (i := 51) rfl)) rfl (lv_at hl 2 rfl) ?_
          refine tz_iald hx hb (zAr hKn.1 0 (by decide)) mc14_bA (by omega) (by omega) (eX12_listOffsets (86, .iaload, 1) (List.mem_of_getElem? (i := 52) rfl)) ?_
          obtain ⟨⟨nb, ezA, hnb⟩, -, -⟩ := hzA (by omega)
          rw [show zi.toNatClampNeg = i0 by show zi.toInt.toNat = _; omega, ezA]
          have hbnb : -1439 ≤ nb.toInt ∧ nb.toInt ≤ 1439 := by rw [hnb]; exact (hwr.2.2.2 (by omega)).1
          refine tz_rowV (As := [.int nb]) (st := []) (b := a) (C := RX12) (Ts := gT) hx hb hml hown h2 (fun _ h => h) (hX12_addOffset l D cA ro sz H0 a nb (((ofsL ze rr).take (ze.2.length + 2)).foldl adO []) ha (fad_take (by omega)) (by omega) (by omega)) ⟨rfl, rfl⟩ ⟨by decide, by decide⟩ ⟨by decide, by decide⟩ (tb_7 194 rfl rfl) (tb_1 12 rfl rfl) (tb_7 191 rfl rfl) (tb_7 193 rfl rfl) (tb_0 21 rfl rfl) (show yX12_addOffset.cls ≠ "java/lang/invoke/MethodHandle" ∧ yX12_addOffset.cls ≠ "java/lang/invoke/VarHandle" ∧ (parseMethodDescriptor yX12_addOffset.desc).map (fun d => d.parameters.length) = some 1 by decide +kernel) zs_blind (zs_ob hh14 ha (show RTg[11]? = some (0, 11, 0, fsX12) from rfl) (zCX12 hKn.1)) (fun U hU hW => ⟨rfl, by rw [hU]; exact hh14.l0, zKb s U hW.alike hKn, by rw [hU]; exact jo14⟩) hh14.2.2.1 hl.1 (Nat.le_of_ble_eq_true rfl) (eX12_listOffsets (87, .invokevirtual 239, 3) (List.mem_of_getElem? (i := 53) rfl)) (fun r17 s17 t17 lo17 g17 f17 l17 => ?_)
          obtain ⟨q17, z17, c17, jo17⟩ := f17
          cases q17
          rw [g17] at c17
          have hh17 : zh_ok D cA RTg ro sz H0 t17.heap lo17 := ⟨z17.1, z17.2.1, l17, z17.2.2.2⟩
          have kp17 := kp14.trans (c17.mono (ms' := aoM) (by decide))
          rw [show nb.toInt = rr.2.2.1 from hnb, ← fold_take (f := adO) (b := []) (ofsL_r2 (e := ze) (r := rr) (by omega))] at jo17
          have mf17_a_5 := (c17.1 a 11 5 11 0 fsX12 ha rfl (by decide) (by decide)).trans mf14_a_5
          have mf17_a_7 := (c17.1 a 11 7 11 0 fsX12 ha rfl (by decide) (by decide)).trans mf14_a_7
          have mf17_a_8 := (c17.1 a 11 8 11 0 fsX12 ha rfl (by decide) (by decide)).trans mf14_a_8
          have mf17_a_9 := (c17.1 a 11 9 11 0 fsX12 ha rfl (by decide) (by decide)).trans mf14_a_9
          have mf17_a_10 := (c17.1 a 11 10 11 0 fsX12 ha rfl (by decide) (by decide)).trans mf14_a_10
          have mc17_a5 := (c17.2 a5 23 0 0 8 _ rq5 rfl (by decide)).trans mc14_a5
          have mc17_a7 := (c17.2 a7 25 0 0 480 _ rq7 rfl (by decide)).trans mc14_a7
          have mc17_b8 := (c17.2 b8 26 0 0 8 _ rq8 rfl (by decide)).trans mc14_b8
          have mc17_b9 := (c17.2 b9 27 0 0 8 _ rq9 rfl (by decide)).trans mc14_b9
          have mc17_bA := (c17.2 bA 28 0 0 8 _ rqA rfl (by decide)).trans mc14_bA
          refine W.eq (g2 := F0 m 90 ls []) rfl ?_
          have hol := ofsL_len (e := ze) (r := rr) hwN hwC
          rw [List.take_of_length_le (by omega)] at jo17
          exact W.vret hx hb hr (fun t ht hW => ⟨rfl, by rw [ht]; exact hh17.l0, by rw [ht]; exact kp17, by rw [ht, od_fold]; exact jo17⟩) hh17.2.2.1 (eX12_listOffsets (90, .return_, 1) (List.mem_of_getElem? (i := 54) rfl))
    | succ n0 ih =>
      intro i iv ls H lo0 hi hiv hh0 kpl jol g5 g7 g8 g9 gA k5 k7 k8 k9 kA hl
      obtain ⟨tv, wv, hy1, hw1, hC1⟩ := hcN i (by omega)
      have hw2 : zq7 (60 * i0 + i) = .int wv := hw1
      obtain ⟨y9, e99, l99, m99⟩ := hya7 (60 * i0 + i) (by omega)
      cases hw2.symm.trans e99
      dsimp only at l99 m99
      refine lv_iload_n hx hb (eX12_listOffsets (20, .iload_n 2, 1) (List.mem_of_getElem? (i := 13) rfl)) rfl (lv_at hl 0 rfl) ?_
      refine ff_bipush hx hb (eX12_listOffsets (21, .bipush 60, 2) (List.mem_of_getElem? (i := 14) rfl)) (by decide) (by decide) (fun v18 e18 => ?_)
      refine lv_iload_n hx hb (eX12_listOffsets (23, .iload_n 1, 1) (List.mem_of_getElem? (i := 15) rfl)) rfl (lv_at hl 2 rfl) ?_
      refine ff_imulL hx hb (eX12_listOffsets (24, .imul, 1) (List.mem_of_getElem? (i := 16) rfl)) (e18) (by omega) (by omega) (fun v19 e19 => ?_)
      refine lv_aload_n hx hb (eX12_listOffsets (25, .aload_n 0, 1) (List.mem_of_getElem? (i := 17) rfl)) rfl (lv_at hl 1 rfl) ?_
      refine tz_get (r := 11) (k := 5) (t := (50, 0, 0)) hx hb hh0 ha rfl rfl (hcl11 19 5 (50, 0, 0) (by decide) rfl).1 g5 (eX12_listOffsets (26, .getfield 19, 3) (List.mem_of_getElem? (i := 18) rfl)) ?_
      refine lv_iload_n hx hb (eX12_listOffsets (29, .iload_n 1, 1) (List.mem_of_getElem? (i := 19) rfl)) rfl (lv_at hl 2 rfl) ?_
      refine tz_iald hx hb (zAr hKn.1 0 (by decide)) k5 (by omega) (by omega) (eX12_listOffsets (30, .iaload, 1) (List.mem_of_getElem? (i := 20) rfl)) ?_
      rw [show zi.toNatClampNeg = i0 by show zi.toInt.toNat = _; omega, ez5]
      refine ff_iadd hx hb (eX12_listOffsets (31, .iadd, 1) (List.mem_of_getElem? (i := 21) rfl)) (by omega) (by omega) (fun v20 e20 => ?_)
      refine ff_icmp_ge hx hb (eX12_listOffsets (32, .if_icmp .ge 19, 3) (List.mem_of_getElem? (i := 22) rfl)) (tgt := 51) rfl (fun c21 => (by exfalso; omega)) (fun c21 => ?_)
      refine lv_aload_n hx hb (eX12_listOffsets (35, .aload_n 0, 1) (List.mem_of_getElem? (i := 23) rfl)) rfl (lv_at hl 1 rfl) ?_
      refine lv_aload_n hx hb (eX12_listOffsets (36, .aload_n 0, 1) (List.mem_of_getElem? (i := 24) rfl)) rfl (lv_at hl 1 rfl) ?_
      refine tz_get (r := 11) (k := 7) (t := (54, 0, 0)) hx hb hh0 ha rfl rfl (hcl11 25 7 (54, 0, 0) (by decide) rfl).1 g7 (eX12_listOffsets (37, .getfield 25, 3) (List.mem_of_getElem? (i := 25) rfl)) ?_
      refine lv_iload_n hx hb (eX12_listOffsets (40, .iload_n 2, 1) (List.mem_of_getElem? (i := 26) rfl)) rfl (lv_at hl 0 rfl) ?_
      refine tz_iald hx hb (zAr hKn.1 0 (by decide)) k7 (by omega) (by omega) (eX12_listOffsets (41, .iaload, 1) (List.mem_of_getElem? (i := 27) rfl)) ?_
      rw [show iv.toNatClampNeg = 60 * i0 + i by show iv.toInt.toNat = _; omega, hw2]
      refine tz_rowV (As := [.int wv]) (st := []) (b := a) (C := RX12) (Ts := gT) hx hb hml hown h2 (fun _ h => h) (hX12_addOffset l D cA ro sz H0 a wv (((ofsL ze rr).take (i + 1)).foldl adO []) ha (fad_take (by omega)) (by omega) (by omega)) ⟨rfl, rfl⟩ ⟨by decide, by decide⟩ ⟨by decide, by decide⟩ (tb_7 194 rfl rfl) (tb_1 12 rfl rfl) (tb_7 191 rfl rfl) (tb_7 193 rfl rfl) (tb_0 21 rfl rfl) (show yX12_addOffset.cls ≠ "java/lang/invoke/MethodHandle" ∧ yX12_addOffset.cls ≠ "java/lang/invoke/VarHandle" ∧ (parseMethodDescriptor yX12_addOffset.desc).map (fun d => d.parameters.length) = some 1 by decide +kernel) zs_blind (zs_ob hh0 ha (show RTg[11]? = some (0, 11, 0, fsX12) from rfl) (zCX12 hKn.1)) (fun U hU hW => ⟨rfl, by rw [hU]; exact hh0.l0, zKb s U hW.alike hKn, by rw [hU]; exact jol⟩) hh0.2.2.1 hl.1 (Nat.le_of_ble_eq_true rfl) (eX12_listOffsets (42, .invokevirtual 239, 3) (List.mem_of_getElem? (i := 28) rfl)) (fun r22 s22 t22 lo22 g22 f22 l22 => ?_)
      obtain ⟨q22, z22, c22, jo22⟩ := f22
      cases q22
      rw [g22] at c22
      have hh22 : zh_ok D cA RTg ro sz H0 t22.heap lo22 := ⟨z22.1, z22.2.1, l22, z22.2.2.2⟩
      have kp22 := kpl.trans (c22.mono (ms' := aoM) (by decide))
      rw [show wv.toInt = wv.toInt from rfl, ← fold_take (f := adO) (b := []) (ofsL_chg (r := rr) hC1)] at jo22
      have mf22_a_5 := (c22.1 a 11 5 11 0 fsX12 ha rfl (by decide) (by decide)).trans g5
      have mf22_a_7 := (c22.1 a 11 7 11 0 fsX12 ha rfl (by decide) (by decide)).trans g7
      have mf22_a_8 := (c22.1 a 11 8 11 0 fsX12 ha rfl (by decide) (by decide)).trans g8
      have mf22_a_9 := (c22.1 a 11 9 11 0 fsX12 ha rfl (by decide) (by decide)).trans g9
      have mf22_a_10 := (c22.1 a 11 10 11 0 fsX12 ha rfl (by decide) (by decide)).trans gA
      have mc22_a5 := (c22.2 a5 23 0 0 8 _ rq5 rfl (by decide)).trans k5
      have mc22_a7 := (c22.2 a7 25 0 0 480 _ rq7 rfl (by decide)).trans k7
      have mc22_b8 := (c22.2 b8 26 0 0 8 _ rq8 rfl (by decide)).trans k8
      have mc22_b9 := (c22.2 b9 27 0 0 8 _ rq9 rfl (by decide)).trans k9
      have mc22_bA := (c22.2 bA 28 0 0 8 _ rqA rfl (by decide)).trans kA
      refine W.eq (g2 := F0 m 45 ls []) rfl ?_
      refine ff_iinc (k := 0) hx hb (eX12_listOffsets (45, .iinc 2 1, 3) (List.mem_of_getElem? (i := 29) rfl)) hl rfl (by decide) (by decide) (by decide) (by omega) (by omega) (fun v23 e23 ls23 hl23 => ?_)
      refine lv_goto hx hb (eX12_listOffsets (48, .goto (-28), 3) (List.mem_of_getElem? (i := 30) rfl)) (tgt := 20) rfl ?_
      exact ih (i + 1) v23 ls23 _ _ (by omega) (by omega) hh22 kp22 jo22 mf22_a_5 mf22_a_7 mf22_a_8 mf22_a_9 mf22_a_10 mc22_a5 mc22_a7 mc22_b8 mc22_b9 mc22_bA (lv_sub hl23 [0, 1, 2] rfl)
  exact loop ze.2.length 0 v5 ls6 _ _ (by omega) (by omega) hh3 kp3 jo3 mf3_a_5 mf3_a_7 mf3_a_8 mf3_a_9 mf3_a_10 mc3_a5 mc3_a7 mc3_b8 mc3_b9 mc3_bA (lv_sub hl6 [0, 1, 2] rfl)
