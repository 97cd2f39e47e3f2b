theorem fold_clpw {L : List Int} {e : zE} {r : rU} {m s : Int} : ∀ (l A : List Int), PW A → PW (l.foldl (clS L e r m s) A) := by
  intro l
  induction l with
  | nil => intro A h; exact h
  | cons o t ih => intro A h; exact ih _ (clS_pw h)
theorem fold_clmem {L : List Int} {e : zE} {r : rU} {m s x : Int} : ∀ (l A : List Int), x ∈ l.foldl (clS L e r m s) A → x ∈ A ∨ ∃ o ∈ l, x = stI L (m - o) + s := by
  intro l
  induction l with
  | nil => intro A h; exact Or.inl h
  | cons o t ih =>
    intro A h
    rcases ih _ h with g | ⟨o', g1, g2⟩
    · by_cases c : cnO L e r m s o
      · rw [clS_yes c] at g
        rcases insF_mem.mp g with q | q
        · exact Or.inr ⟨o, List.mem_cons_self, q⟩
        · exact Or.inl q
      · rw [clS_no c] at g
        exact Or.inl g
    · exact Or.inr ⟨o', List.mem_cons_of_mem _ g1, g2⟩
theorem nd_take : ∀ {S : List Int} {k : Nat} {o : Int}, S.Nodup → S[k]? = some o → o ∉ S.take k := by
  intro S
  induction S with
  | nil => intro k o _ h; simp at h
  | cons x S ih =>
    intro k o hn h
    obtain ⟨n1, n2⟩ := List.nodup_cons.mp hn
    cases k with
    | zero => rw [List.take_zero]; exact fun hm => by cases hm
    | succ k =>
      rw [List.getElem?_cons_succ] at h
      rw [List.take_succ_cons]
      intro hm
      rcases List.mem_cons.mp hm with e | e
      · exact n1 (e ▸ List.mem_of_getElem? h)
      · exact ih n2 h e
theorem cl_new {L : List Int} {e : zE} {r : rU} {m s : Int} {S A : List Int} {k : Nat} {o : Int} (hS : S.Nodup) (h : S[k]? = some o) (hA : A = (S.take k).foldl (clS L e r m s) []) : PW A ∧ stI L (m - o) + s ∉ A := by
  rw [hA]
  refine ⟨fold_clpw _ _ List.Pairwise.nil, fun hm => ?_⟩
  rcases fold_clmem _ _ hm with g | ⟨o', g1, g2⟩
  · cases g
  · have h1 : m - o = m - o' := stI_inj (L := L) (by omega)
    have h2 : o' = o := by omega
    rw [h2] at g1
    exact nd_take hS h g1
theorem pw_drop {A : List Int} {i : Nat} {y t : Int} (h : A[i]? = some y) (hy : t < y) (hd : ∀ x ∈ A.drop (i + 1), t < x) : ∀ x ∈ A.drop i, t < x := by
  obtain ⟨h1, h2⟩ := List.getElem?_eq_some_iff.mp h
  rw [List.drop_eq_getElem_cons h1, h2]
  intro x hx
  rcases List.mem_cons.mp hx with g | g
  · rw [g]; exact hy
  · exact hd x g
theorem pw_take : ∀ {A : List Int} {i : Nat} {y t : Int}, PW A → A[i]? = some y → y < t → ∀ x ∈ A.take (i + 1), x < t := by
  intro A
  induction A with
  | nil => intro i y t _ h; simp at h
  | cons z A ih =>
    intro i y t hp h hy x hx
    obtain ⟨p1, p2⟩ := List.pairwise_cons.mp hp
    rw [List.take_succ_cons] at hx
    cases i with
    | zero =>
      have h9 : some z = some y := h
      have e : z = y := Option.some.inj h9
      rcases List.mem_cons.mp hx with q | q
      · rw [q, e]; exact hy
      · rw [List.take_zero] at q; cases q
    | succ i =>
      rw [List.getElem?_cons_succ] at h
      rcases List.mem_cons.mp hx with q | q
      · have := p1 y (List.mem_of_getElem? h)
        omega
      · exact ih p2 h hy x q
def loM : List (Nat × Nat) := [(11, 18), (11, 19), (11, 20), (11, 21), (11, 22), (11, 24), (32, 0), (33, 0)]
def jLA (D : va_G) (cA : Nat → ClassId) (ro : Nat → Option Nat) (H : Heap) (a : Nat) (A : List Int) : Prop := ∃ (al : Nat) (zl : Nat → Value), zh_f D H a 11 25 = .ref al ∧ ro al = some 33 ∧ H[al]? = some (arrV (cA 1) 64 zl) ∧ jN A zl
theorem od_len {e : zE} {r : rU} (h0 : 0 ≤ r.1) (h2 : r.1 ≤ 2) (h3 : e.2.length ≤ 60) : (odG [] (ofsL e r)).length ≤ 63 := by
  have h := ofsL_len (e := e) (r := r) h0 h2
  rw [od_fold]
  have h1 := fad_len (ofsL e r) []
  have h4 : ([] : List Int).length = 0 := rfl
  omega
theorem clF_od {L : List Int} {e : zE} {r : rU} {m s : Int} : clF L e r m s = (odG [] (ofsL e r)).foldl (clS L e r m s) [] := by
  rw [od_nw, List.nil_append]
  exact clF_nw
set_option maxRecDepth 100000 in
set_option maxHeartbeats 4000000 in
theorem hX12_locals (l : Launch) (D : va_G) (cA : Nat → ClassId) (ro : Nat → Option Nat) (sz : Nat) (H0 : Heap) (a : Nat) (zi : Int32) (m0 : Int64) (s0 : Int32) (L : List Int) (Z : List zE) (R : List rU) (i0 : Nat) (ze : zE) (rr : rU) (ha : ro a = some 11) (hi0 : zi.toInt = (i0 : Int)) (hze : Z[i0]? = some ze) (hrr : R[i0]? = some rr) (hm1 : -526984793280 ≤ m0.toInt) (hm2 : m0.toInt ≤ 524913079679) (hs1 : 0 ≤ s0.toInt) (hs2 : s0.toInt ≤ 60) : Met l yX12_locals (gW yX12_locals cX12_locals 12 (some .int)) { frames := 5, cells := 0, slots := 0, locals := 143 } (zs_P D cA ro sz H0 (fun H => jRY D cA ro H a L (Z, R)) [.ref a, .int zi, .long m0, .int s0]) (fun _ st oc t => ∃ r : Int32, oc = .returned (some (.int r)) ∧ r.toInt = ((clF L ze rr m0.toInt s0.toInt).length : Int) ∧ zh_ok D cA RTg ro sz H0 t.heap [] ∧ zc_kept D RTg ro loM st.heap t.heap ∧ jLA D cA ro t.heap a (clF L ze rr m0.toInt s0.toInt)) 0 0 (zy_fr sz) := by
  refine zy_ofW (cc := cX12_locals) (maxL := 12) (ret := (some .int)) (by decide +kernel) rfl ?_
  intro p e s m args below meth c s1 B hml hv
  obtain ⟨rfl, hh, hKn, hJ⟩ := hv
  have hx := B.exec
  have hb := B.bytes
  have hr := B.returns
  have hlk := B.notSynchronized
  have hts0 := atoms_spec (ws := gW yX12_locals cX12_locals 12 (some .int)) B.pre
  have h2 : ∀ w ∈ gT, w.before ([.ref a, .int zi, .long m0, .int s0] : List Value).toArray s = true := fun w hw => hts0 w (List.mem_cons_of_mem _ hw)
  have hown : s.vm.findClass RX12 = some m.cls := findClass_of_methodNamed B.named
  have hl := lv_entry [.ref a, .int zi, .long m0, .int s0] (n := 12) (Nat.le_of_ble_eq_true rfl)
  rw [lg_entry_eq]
  generalize (lg_sl [.ref a, .int zi, .long m0, .int s0] ++ List.replicate (12 - (lg_sl [.ref a, .int zi, .long m0, .int s0]).length) Slot.unset).toArray = ls at hl ⊢
  have b_zi := zn_i32 zi
  have b_m0 := zn_i64 m0
  have b_s0 := zn_i32 s0
  have hD := zD_all h2 hKn.1
  have hcl11 := fun (idx k : Nat) (t : zt_T) (h : (idx, 11, k) ∈ gfX12) (hk : fsX12[k]? = some t) => zf_clause (ro := ro) (ms := loM) h2 hown hKn.1 gfX12_ok (by decide +kernel) idx 11 k 11 0 fsX12 t h rfl hk
  have kp0 : zc_kept D RTg ro loM s.heap s.heap := zc_kept.refl
  obtain ⟨hJz, hJq, hRl, hsr⟩ := id hJ
  have hJz : jRZ D cA ro s.heap a L Z := hJz
  have hJq : jRQ D cA ro s.heap a R := hJq
  have hRl : R.length = Z.length := hRl
  have hsr : ∀ e ∈ Z, srt e.2 := hsr
  obtain ⟨⟨la, n, z, fq2, r0, fq1, hn, hc, hz⟩, ⟨a4, a5, a6, a7, zq4, zq5, zq6, zq7, nz, ⟨fq4, rq4, cq4⟩, ⟨fq5, rq5, cq5⟩, ⟨fq6, rq6, cq6⟩, ⟨fq7, rq7, cq7⟩, fq3, hnz, hp⟩, hjl, hzw⟩ := id hJz
  have hjr := hJz.1
  have hjL := hjl.2.1
  have hzw1 := hzw.1
  obtain ⟨n9, g9, n1, n2⟩ := zh_fT (k := 1) (t := (0, 0, 40)) hh ha (show RTg[11]? = some (0, 11, 0, fsX12) from rfl) rfl
  cases fq1.symm.trans g9
  dsimp only at n1 n2
  clear g9
  obtain ⟨n9, g9, nz1, nz2⟩ := zh_fT (k := 3) (t := (0, 0, 8)) hh ha (show RTg[11]? = some (0, 11, 0, fsX12) from rfl) rfl
  cases fq3.symm.trans g9
  dsimp only at nz1 nz2
  clear g9
  obtain ⟨-, xla, dla, hla⟩ := zh_arr hh r0 (show RTg[21]? = some (1, 1, 40, [(1, (-9223372036854775808), 9223372036854775807)]) from rfl)
  have hyla : ∀ i, i < 40 → zt_ok ro (z i) (1, (-9223372036854775808), 9223372036854775807) := zs_arr (hc.symm.trans dla) hla
  obtain ⟨-, xa4, da4, ha4⟩ := zh_arr hh rq4 (show RTg[22]? = some (1, 0, 8, [(0, (-1439), 1439)]) from rfl)
  have hya4 : ∀ i, i < 8 → zt_ok ro (zq4 i) (0, (-1439), 1439) := zs_arr (cq4.symm.trans da4) ha4
  obtain ⟨-, xa5, da5, ha5⟩ := zh_arr hh rq5 (show RTg[23]? = some (1, 0, 8, [(0, 0, 60)]) from rfl)
  have hya5 : ∀ i, i < 8 → zt_ok ro (zq5 i) (0, 0, 60) := zs_arr (cq5.symm.trans da5) ha5
  obtain ⟨-, xa6, da6, ha6⟩ := zh_arr hh rq6 (show RTg[24]? = some (1, 1, 480, [(1, (-100000000000000), 100000000000000)]) from rfl)
  have hya6 : ∀ i, i < 480 → zt_ok ro (zq6 i) (1, (-100000000000000), 100000000000000) := zs_arr (cq6.symm.trans da6) ha6
  obtain ⟨-, xa7, da7, ha7⟩ := zh_arr hh rq7 (show RTg[25]? = some (1, 0, 480, [(0, (-1439), 1439)]) from rfl)
  have hya7 : ∀ i, i < 480 → zt_ok ro (zq7 i) (0, (-1439), 1439) := zs_arr (cq7.symm.trans da7) ha7
  obtain ⟨b8, b9, bA, bB, z8, z9, zA, zB, ⟨fq8, rq8, cq8⟩, ⟨fq9, rq9, cq9⟩, ⟨fqA, rqA, cqA⟩, ⟨fqB, rqB, cqB⟩, hrp, hrw⟩ := id hJq
  obtain ⟨-, xb8, db8, hb8⟩ := zh_arr hh rq8 (show RTg[26]? = some (1, 0, 8, [(0, 0, 2)]) from rfl)
  have hyb8 : ∀ i, i < 8 → zt_ok ro (z8 i) (0, 0, 2) := zs_arr (cq8.symm.trans db8) hb8
  obtain ⟨-, xb9, db9, hb9⟩ := zh_arr hh rq9 (show RTg[27]? = some (1, 0, 8, [(0, (-1000000), 1000000)]) from rfl)
  have hyb9 : ∀ i, i < 8 → zt_ok ro (z9 i) (0, (-1000000), 1000000) := zs_arr (cq9.symm.trans db9) hb9
  obtain ⟨-, xbA, dbA, hbA⟩ := zh_arr hh rqA (show RTg[28]? = some (1, 0, 8, [(0, (-1000000), 1000000)]) from rfl)
  have hybA : ∀ i, i < 8 → zt_ok ro (zA i) (0, (-1000000), 1000000) := zs_arr (cqA.symm.trans dbA) hbA
  obtain ⟨-, xbB, dbB, hbB⟩ := zh_arr hh rqB (show RTg[29]? = some (1, 0, 80, [(0, (-1000000), 1000000)]) from rfl)
  have hybB : ∀ i, i < 80 → zt_ok ro (zB i) (0, (-1000000), 1000000) := zs_arr (cqB.symm.trans dbB) hbB
  have hle := hzw.2 ze (List.mem_of_getElem? hze)
  have hwr := hrw rr (List.mem_of_getElem? hrr)
  have hod := od_len (e := ze) (r := rr) hwr.1 hwr.2.1 (by omega)
  have hnd := od_nodup (ofsL ze rr) [] List.nodup_nil
  have hcl9 := clF_od (L := L) (e := ze) (r := rr) (m := m0.toInt) (s := s0.toInt)
  refine lv_aload_n hx hb (eX12_locals (0, .aload_n 0, 1) (List.mem_of_getElem? (i := 0) rfl)) rfl (lv_at hl 0 rfl) ?_
  refine lv_iload_n hx hb (eX12_locals (1, .iload_n 1, 1) (List.mem_of_getElem? (i := 1) rfl)) rfl (lv_at hl 1 rfl) ?_
  refine tz_rowV (As := [.int zi]) (st := []) (b := a) (C := RX12) (Ts := gT) hx hb hml hown h2 (fun _ h => h) (hX12_listOffsets l D cA ro sz H0 a zi L Z R i0 ze rr ha hi0 hze hrr) ⟨rfl, rfl⟩ ⟨by decide, by decide⟩ ⟨by decide, by decide⟩ (tb_7 190 rfl rfl) (tb_1 12 rfl rfl) (tb_7 187 rfl rfl) (tb_7 189 rfl rfl) (tb_0 20 rfl rfl) (show yX12_listOffsets.cls ≠ "java/lang/invoke/MethodHandle" ∧ yX12_listOffsets.cls ≠ "java/lang/invoke/VarHandle" ∧ (parseMethodDescriptor yX12_listOffsets.desc).map (fun d => d.parameters.length) = some 1 by decide +kernel) zs_blind (zs_ob hh ha (show RTg[11]? = some (0, 11, 0, fsX12) from rfl) (zCX12 hKn.1)) (fun U hU hW => ⟨rfl, by rw [hU]; exact hh.l0, zKb s U hW.alike hKn, by rw [hU]; exact hJ⟩) hh.2.2.1 hl.1 (Nat.le_of_ble_eq_true rfl) (eX12_locals (2, .invokevirtual 243, 3) (List.mem_of_getElem? (i := 2) rfl)) (fun r1 s1 t1 lo1 g1 f1 l1 => ?_)
  obtain ⟨q1, z1, c1, jo1⟩ := f1
  cases q1
  rw [g1] at c1
  have hh1 : zh_ok D cA RTg ro sz H0 t1.heap lo1 := ⟨z1.1, z1.2.1, l1, z1.2.2.2⟩
  have kp1 := kp0.trans (c1.mono (ms' := loM) (by decide))
  have jy1 := hJ.kept ha c1 (by decide)
  generalize hSS : odG [] (ofsL ze rr) = SS at jo1 hod hnd hcl9
  refine W.eq (g2 := F0 m 5 ls []) rfl ?_
  refine ff_iconst hx hb (eX12_locals (5, .iconst 0, 1) (List.mem_of_getElem? (i := 3) rfl)) (by decide) (by decide) (fun v2 e2 => ?_)
  refine lv_istore hx hb (eX12_locals (6, .istore 5, 2) (List.mem_of_getElem? (i := 4) rfl)) hl (by decide) rfl (fun ls3 hl3 => ?_)
  refine ff_iconst hx hb (eX12_locals (8, .iconst 0, 1) (List.mem_of_getElem? (i := 5) rfl)) (by decide) (by decide) (fun v4 e4 => ?_)
  refine lv_istore hx hb (eX12_locals (9, .istore 6, 2) (List.mem_of_getElem? (i := 6) rfl)) hl3 (by decide) rfl (fun ls5 hl5 => ?_)
  obtain ⟨al, fal0, ral⟩ := tz_ref (k := 25) (rr := 33) hh1 ha (show RTg[11]? = some (0, 11, 0, fsX12) from rfl) rfl
  obtain ⟨-, zl0, cal0, -⟩ := zh_arr hh1 ral (show RTg[33]? = some (1, 1, 64, [(1, (-100000000000000), 100000000000000)]) from rfl)
  have loop : ∀ (n9 k0 : Nat) (iv nv : Int32) (A1 : List Int) (zl : Nat → Value) (ls : Array Slot) (H : Heap) (lo0 : List Loc), k0 + n9 = SS.length → iv.toInt = (k0 : Int) → nv.toInt = (A1.length : Int) → A1.length ≤ k0 → A1 = (SS.take k0).foldl (clS L ze rr m0.toInt s0.toInt) [] → zh_ok D cA RTg ro sz H0 H lo0 → zc_kept D RTg ro loM s.heap H → jRY D cA ro H a L (Z, R) → jOf D cA ro H a SS → zh_f D H a 11 25 = .ref al → H[al]? = some (arrV (cA 1) 64 zl) → jN A1 zl → lv_has ls 12 [(6, .int iv), (5, .int nv), (0, .ref a), (1, .int zi), (2, .long m0), (4, .int s0)] → W p l e (headSpec (gW yX12_locals cX12_locals 12 (some .int)) { frames := 5, cells := 0, slots := 0, locals := 143 }).room s m ([.ref a, .int zi, .long m0, .int s0] : List Value).toArray below meth c H lo0 0 0 (MQ below (fun _ st oc t => ∃ r : Int32, oc = .returned (some (.int r)) ∧ r.toInt = ((clF L ze rr m0.toInt s0.toInt).length : Int) ∧ zh_ok D cA RTg ro sz H0 t.heap [] ∧ zc_kept D RTg ro loM st.heap t.heap ∧ jLA D cA ro t.heap a (clF L ze rr m0.toInt s0.toInt)) ([.ref a, .int zi, .long m0, .int s0] : List Value).toArray s 0 0 (zy_fr sz)) (F0 m 11 ls []) := by
    intro n9
    induction n9 with
    | zero =>
      intro k0 iv nv A1 zl ls H lo0 hk hiv hnv hAk hA1 hh0 kpl jyl jol fal cal hjn hl
      obtain ⟨ao, zo, cn, f23, rao, cao, f24, hcn, hzo⟩ := id jol
      refine lv_iload hx hb (eX12_locals (11, .iload 6, 2) (List.mem_of_getElem? (i := 7) rfl)) (lv_at hl 0 rfl) ?_
      refine lv_aload_n hx hb (eX12_locals (13, .aload_n 0, 1) (List.mem_of_getElem? (i := 8) rfl)) rfl (lv_at hl 2 rfl) ?_
      refine tz_get (r := 11) (k := 24) (t := (0, 0, 64)) hx hb hh0 ha rfl rfl (hcl11 236 24 (0, 0, 64) (by decide) rfl).1 f24 (eX12_locals (14, .getfield 236, 3) (List.mem_of_getElem? (i := 9) rfl)) ?_
      refine ff_icmp_ge hx hb (eX12_locals (17, .if_icmp .ge 128, 3) (List.mem_of_getElem? (i := 10) rfl)) (tgt := 145) rfl (fun c6 => ?_) (fun c6 => (by exfalso; omega))
      refine lv_iload hx hb (eX12_locals (145, .iload 5, 2) (List.mem_of_getElem? (i := 77) rfl)) (lv_at hl 1 rfl) ?_
      have hfn : A1 = clF L ze rr m0.toInt s0.toInt := by rw [hA1, List.take_of_length_le (by omega), hcl9]
      exact W.zret hx hb hr rfl (fun t ht hW => ⟨_, rfl, by rw [← hfn]; exact hnv, by rw [ht]; exact hh0.l0, by rw [ht]; exact kpl, by rw [ht, ← hfn]; exact ⟨al, zl, fal, ral, cal, hjn⟩⟩) hh0.2.2.1 (eX12_locals (147, .ireturn, 1) (List.mem_of_getElem? (i := 78) rfl))
    | succ n9 ih =>
      intro k0 iv nv A1 zl ls H lo0 hk hiv hnv hAk hA1 hh0 kpl jyl jol fal cal hjn hl
      obtain ⟨ao, zo, cn, f23, rao, cao, f24, hcn, hzo⟩ := id jol
      obtain ⟨ov, hz9, hS9⟩ := hzo k0 (by omega)
      obtain ⟨-, xo, do9, ho9⟩ := zh_arr hh0 rao (show RTg[32]? = some (1, 0, 64, [(0, (-1000000), 1000000)]) from rfl)
      have hoT : ∀ i, i < 64 → zt_ok ro (zo i) (0, -1000000, 1000000) := zs_arr (cao.symm.trans do9) ho9
      obtain ⟨y9, e99, l99, m99⟩ := hoT k0 (by omega)
      cases hz9.symm.trans e99
      dsimp only at l99 m99
      clear e99 hoT ho9 do9
      refine lv_iload hx hb (eX12_locals (11, .iload 6, 2) (List.mem_of_getElem? (i := 7) rfl)) (lv_at hl 0 rfl) ?_
      refine lv_aload_n hx hb (eX12_locals (13, .aload_n 0, 1) (List.mem_of_getElem? (i := 8) rfl)) rfl (lv_at hl 2 rfl) ?_
      refine tz_get (r := 11) (k := 24) (t := (0, 0, 64)) hx hb hh0 ha rfl rfl (hcl11 236 24 (0, 0, 64) (by decide) rfl).1 f24 (eX12_locals (14, .getfield 236, 3) (List.mem_of_getElem? (i := 9) rfl)) ?_
      refine ff_icmp_ge hx hb (eX12_locals (17, .if_icmp .ge 128, 3) (List.mem_of_getElem? (i := 10) rfl)) (tgt := 145) rfl (fun c7 => (by exfalso; omega)) (fun c7 => ?_)
      refine lv_lload_n hx hb (eX12_locals (20, .lload_n 2, 1) (List.mem_of_getElem? (i := 11) rfl)) rfl (lv_at hl 4 rfl) ?_
      refine lv_aload_n hx hb (eX12_locals (21, .aload_n 0, 1) (List.mem_of_getElem? (i := 12) rfl)) rfl (lv_at hl 2 rfl) ?_
      refine tz_get (r := 11) (k := 23) (t := (68, 0, 0)) hx hb hh0 ha rfl rfl (hcl11 47 23 (68, 0, 0) (by decide) rfl).1 f23 (eX12_locals (22, .getfield 47, 3) (List.mem_of_getElem? (i := 13) rfl)) ?_
      refine lv_iload hx hb (eX12_locals (25, .iload 6, 2) (List.mem_of_getElem? (i := 14) rfl)) (lv_at hl 0 rfl) ?_
      refine tz_iald hx hb (zAr hKn.1 0 (by decide)) cao (by omega) (by omega) (eX12_locals (27, .iaload, 1) (List.mem_of_getElem? (i := 15) rfl)) ?_
      rw [show iv.toNatClampNeg = k0 by show iv.toInt.toNat = _; omega, hz9]
      refine ff_i2l hx hb (eX12_locals (28, .i2l, 1) (List.mem_of_getElem? (i := 16) rfl)) (fun v8 e8 => ?_)
      refine ff_lsub hx hb (eX12_locals (29, .lsub, 1) (List.mem_of_getElem? (i := 17) rfl)) (by omega) (by omega) (fun v9 e9 => ?_)
      refine lv_lstore hx hb (eX12_locals (30, .lstore 7, 2) (List.mem_of_getElem? (i := 18) rfl)) hl (by decide) rfl (fun ls10 hl10 => ?_)
      have huv : v9.toInt = m0.toInt - ov.toInt := by omega
      refine lv_aload_n hx hb (eX12_locals (32, .aload_n 0, 1) (List.mem_of_getElem? (i := 19) rfl)) rfl (lv_at hl10 3 rfl) ?_
      refine lv_lload hx hb (eX12_locals (33, .lload 7, 2) (List.mem_of_getElem? (i := 20) rfl)) (lv_at hl10 0 rfl) ?_
      refine tz_rowV (As := [.long v9]) (st := []) (b := a) (C := RX12) (Ts := gT) hx hb hml hown h2 (fun _ h => h) (hX12_isMinute l D cA ro sz H0 a v9 L ha) ⟨rfl, rfl⟩ ⟨by decide, by decide⟩ ⟨by decide, by decide⟩ (tb_7 117 rfl rfl) (tb_1 12 rfl rfl) (tb_7 114 rfl rfl) (tb_7 116 rfl rfl) (tb_0 9 rfl rfl) (show yX12_isMinute.cls ≠ "java/lang/invoke/MethodHandle" ∧ yX12_isMinute.cls ≠ "java/lang/invoke/VarHandle" ∧ (parseMethodDescriptor yX12_isMinute.desc).map (fun d => d.parameters.length) = some 1 by decide +kernel) zs_blind (zs_ob hh0 ha (show RTg[11]? = some (0, 11, 0, fsX12) from rfl) (zCX12 hKn.1)) (fun U hU hW => ⟨rfl, by rw [hU]; exact hh0.l0, zKb s U hW.alike hKn, by rw [hU]; exact jyl.1.1⟩) hh0.2.2.1 hl10.1 (Nat.le_of_ble_eq_true rfl) (eX12_locals (35, .invokevirtual 201, 3) (List.mem_of_getElem? (i := 21) rfl)) (fun r11 s11 t11 lo11 g11 f11 l11 => ?_)
      obtain ⟨z11, v11, q11, e11⟩ := f11
      cases q11
      rw [z11, g11]
      have hh11 : zh_ok D cA RTg ro sz H0 H lo11 := ⟨hh0.1, hh0.2.1, l11, hh0.2.2.2⟩
      refine W.eq (g2 := F0 m 38 ls10 [.int v11]) rfl ?_
      refine ff_if_eq hx hb (eX12_locals (38, .ifCond .eq 101, 3) (List.mem_of_getElem? (i := 22) rfl)) (tgt := 139) rfl (fun c12 => ?_) (fun c12 => ?_)
      · have hno : ¬ cnO L ze rr m0.toInt s0.toInt ov.toInt := fun g => by rcases e11 with h | h; exfalso; omega; exact h.2 (by rw [huv]; exact g.1)
        refine ff_iinc (k := 1) hx hb (eX12_locals (139, .iinc 6 1, 3) (List.mem_of_getElem? (i := 75) rfl)) hl10 rfl (by decide) (by decide) (by decide) (by omega) (by omega) (fun v13 e13 ls13 hl13 => ?_)
        refine lv_goto hx hb (eX12_locals (142, .goto (-131), 3) (List.mem_of_getElem? (i := 76) rfl)) (tgt := 11) rfl ?_
        exact ih (k0 + 1) v13 nv A1 zl ls13 _ _ (by omega) (by omega) hnv (by omega) (by rw [fold_take hS9, ← hA1, clS_no hno]) hh11 kpl jyl jol fal cal hjn (lv_sub hl13 [0, 2, 3, 4, 5, 6] rfl)
      · have hmk : mOK v9.toInt := by rcases e11 with h | h; exact h.2; exfalso; omega
        have hmin : mIn (m0.toInt - ov.toInt) := by rw [← huv]; exact hmk
        clear e11
        refine lv_iload hx hb (eX12_locals (41, .iload 4, 2) (List.mem_of_getElem? (i := 23) rfl)) (lv_at hl10 6 rfl) ?_
        refine lv_aload_n hx hb (eX12_locals (43, .aload_n 0, 1) (List.mem_of_getElem? (i := 24) rfl)) rfl (lv_at hl10 3 rfl) ?_
        refine lv_lload hx hb (eX12_locals (44, .lload 7, 2) (List.mem_of_getElem? (i := 25) rfl)) (lv_at hl10 0 rfl) ?_
        refine tz_rowV (As := [.long v9]) (st := [.int s0]) (b := a) (C := RX12) (Ts := gT) hx hb hml hown h2 (fun _ h => h) (hX12_secondsOf l D cA ro sz H0 a v9 L ha (by unfold mOK at hmk; omega) (by unfold mOK at hmk; omega)) ⟨rfl, rfl⟩ ⟨by decide, by decide⟩ ⟨by decide, by decide⟩ (tb_7 123 rfl rfl) (tb_1 12 rfl rfl) (tb_7 120 rfl rfl) (tb_7 122 rfl rfl) (tb_0 10 rfl rfl) (show yX12_secondsOf.cls ≠ "java/lang/invoke/MethodHandle" ∧ yX12_secondsOf.cls ≠ "java/lang/invoke/VarHandle" ∧ (parseMethodDescriptor yX12_secondsOf.desc).map (fun d => d.parameters.length) = some 1 by decide +kernel) zs_blind (zs_ob hh11 ha (show RTg[11]? = some (0, 11, 0, fsX12) from rfl) (zCX12 hKn.1)) (fun U hU hW => ⟨rfl, by rw [hU]; exact hh11.l0, zKb s U hW.alike hKn, by rw [hU]; exact jyl.1.1⟩) hh11.2.2.1 hl10.1 (Nat.le_of_ble_eq_true rfl) (eX12_locals (46, .invokevirtual 204, 3) (List.mem_of_getElem? (i := 26) rfl)) (fun r14 s14 t14 lo14 g14 f14 l14 => ?_)
        obtain ⟨z14, v14, q14, e14⟩ := f14
        cases q14
        rw [z14, g14]
        have hh14 : zh_ok D cA RTg ro sz H0 H lo14 := ⟨hh11.1, hh11.2.1, l14, hh11.2.2.2⟩
        refine W.eq (g2 := F0 m 49 ls10 [.int v14, .int s0]) rfl ?_
        have hlS : v14.toInt = lsS L (m0.toInt - ov.toInt) + 1 := by unfold lsS; rw [← huv]; rcases e14 with ⟨h, h9⟩ | ⟨h, h9⟩; (rw [if_pos h9]; exact h); (rw [if_neg h9]; exact h)
        clear e14
        refine ff_icmp_ge hx hb (eX12_locals (49, .if_icmp .ge 90, 3) (List.mem_of_getElem? (i := 27) rfl)) (tgt := 139) rfl (fun c15 => ?_) (fun c15 => ?_)
        · have hno : ¬ cnO L ze rr m0.toInt s0.toInt ov.toInt := fun g => by have g2 := g.2.1; omega
          refine ff_iinc (k := 1) hx hb (eX12_locals (139, .iinc 6 1, 3) (List.mem_of_getElem? (i := 75) rfl)) hl10 rfl (by decide) (by decide) (by decide) (by omega) (by omega) (fun v16 e16 ls16 hl16 => ?_)
          refine lv_goto hx hb (eX12_locals (142, .goto (-131), 3) (List.mem_of_getElem? (i := 76) rfl)) (tgt := 11) rfl ?_
          exact ih (k0 + 1) v16 nv A1 zl ls16 _ _ (by omega) (by omega) hnv (by omega) (by rw [fold_take hS9, ← hA1, clS_no hno]) hh14 kpl jyl jol fal cal hjn (lv_sub hl16 [0, 2, 3, 4, 5, 6] rfl)
        · have hsec : s0.toInt ≤ lsS L (m0.toInt - ov.toInt) := by omega
          refine lv_aload_n hx hb (eX12_locals (52, .aload_n 0, 1) (List.mem_of_getElem? (i := 28) rfl)) rfl (lv_at hl10 3 rfl) ?_
          refine lv_lload hx hb (eX12_locals (53, .lload 7, 2) (List.mem_of_getElem? (i := 29) rfl)) (lv_at hl10 0 rfl) ?_
          refine tz_rowV (As := [.long v9]) (st := []) (b := a) (C := RX12) (Ts := gT) hx hb hml hown h2 (fun _ h => h) (hX12_startOf l D cA ro sz H0 a v9 L ha (by unfold mOK at hmk; omega) (by unfold mOK at hmk; omega)) ⟨rfl, rfl⟩ ⟨by decide, by decide⟩ ⟨by decide, by decide⟩ (tb_7 127 rfl rfl) (tb_1 12 rfl rfl) (tb_7 124 rfl rfl) (tb_7 126 rfl rfl) (tb_0 11 rfl rfl) (show yX12_startOf.cls ≠ "java/lang/invoke/MethodHandle" ∧ yX12_startOf.cls ≠ "java/lang/invoke/VarHandle" ∧ (parseMethodDescriptor yX12_startOf.desc).map (fun d => d.parameters.length) = some 1 by decide +kernel) zs_blind (zs_ob hh14 ha (show RTg[11]? = some (0, 11, 0, fsX12) from rfl) (zCX12 hKn.1)) (fun U hU hW => ⟨rfl, by rw [hU]; exact hh14.l0, zKb s U hW.alike hKn, by rw [hU]; exact jyl.1.1⟩) hh14.2.2.1 hl10.1 (Nat.le_of_ble_eq_true rfl) (eX12_locals (55, .invokevirtual 190, 3) (List.mem_of_getElem? (i := 30) rfl)) (fun r17 s17 t17 lo17 g17 f17 l17 => ?_)
          obtain ⟨z17, v17, q17, e17⟩ := f17
          cases q17
          rw [z17, g17]
          have hh17 : zh_ok D cA RTg ro sz H0 H lo17 := ⟨hh14.1, hh14.2.1, l17, hh14.2.2.2⟩
          have hib := lsI_b hjL (v9.toInt / 1440)
          have hie := e17
          unfold stI at hie
          have htb : -31900000000000 ≤ v17.toInt ∧ v17.toInt ≤ 31900000000000 := by unfold mOK at hmk; omega
          refine W.eq (g2 := F0 m 58 ls10 [.long v17]) rfl ?_
          refine lv_iload hx hb (eX12_locals (58, .iload 4, 2) (List.mem_of_getElem? (i := 31) rfl)) (lv_at hl10 6 rfl) ?_
          refine ff_i2l hx hb (eX12_locals (60, .i2l, 1) (List.mem_of_getElem? (i := 32) rfl)) (fun v18 e18 => ?_)
          refine ff_ladd hx hb (eX12_locals (61, .ladd, 1) (List.mem_of_getElem? (i := 33) rfl)) (by omega) (by omega) (fun v19 e19 => ?_)
          rw [huv] at e17
          have htv : v19.toInt = stI L (m0.toInt - ov.toInt) + s0.toInt := by omega
          clear e17 hie
          refine lv_lstore hx hb (eX12_locals (62, .lstore 9, 2) (List.mem_of_getElem? (i := 34) rfl)) hl10 (by decide) rfl (fun ls20 hl20 => ?_)
          refine lv_aload_n hx hb (eX12_locals (64, .aload_n 0, 1) (List.mem_of_getElem? (i := 35) rfl)) rfl (lv_at hl20 4 rfl) ?_
          refine lv_iload_n hx hb (eX12_locals (65, .iload_n 1, 1) (List.mem_of_getElem? (i := 36) rfl)) rfl (lv_at hl20 5 rfl) ?_
          refine lv_lload hx hb (eX12_locals (66, .lload 9, 2) (List.mem_of_getElem? (i := 37) rfl)) (lv_at hl20 0 rfl) ?_
          refine tz_rowV (As := [.int zi, .long v19]) (st := []) (b := a) (C := RX12) (Ts := gT) hx hb hml hown h2 (fun _ h => h) (hX12_offsetAt l D cA ro sz H0 a zi v19 L Z R i0 ze rr ha hi0 hze hrr (by omega) (by omega)) ⟨rfl, rfl⟩ ⟨by decide, by decide⟩ ⟨by decide, by decide⟩ (tb_7 170 rfl rfl) (tb_1 12 rfl rfl) (tb_7 167 rfl rfl) (tb_7 169 rfl rfl) (tb_0 16 rfl rfl) (show yX12_offsetAt.cls ≠ "java/lang/invoke/MethodHandle" ∧ yX12_offsetAt.cls ≠ "java/lang/invoke/VarHandle" ∧ (parseMethodDescriptor yX12_offsetAt.desc).map (fun d => d.parameters.length) = some 2 by decide +kernel) zs_blind (zs_ob hh17 ha (show RTg[11]? = some (0, 11, 0, fsX12) from rfl) (zCX12 hKn.1)) (fun U hU hW => ⟨rfl, by rw [hU]; exact hh17.l0, zKb s U hW.alike hKn, by rw [hU]; exact jyl⟩) hh17.2.2.1 hl20.1 (Nat.le_of_ble_eq_true rfl) (eX12_locals (68, .invokevirtual 233, 3) (List.mem_of_getElem? (i := 38) rfl)) (fun r21 s21 t21 lo21 g21 f21 l21 => ?_)
          obtain ⟨v21, q21, e21, z21, c21⟩ := f21
          cases q21
          rw [g21] at c21
          have hh21 : zh_ok D cA RTg ro sz H0 t21.heap lo21 := ⟨z21.1, z21.2.1, l21, z21.2.2.2⟩
          have kp21 := kpl.trans (c21.mono (ms' := loM) (by decide))
          have jy21 := jyl.kept ha c21 (by decide)
          have jo21 := jol.kept ha c21 (by decide)
          have mf21_a_23 := (c21.1 a 11 23 11 0 fsX12 ha rfl (by decide) (by decide)).trans f23
          have mf21_a_24 := (c21.1 a 11 24 11 0 fsX12 ha rfl (by decide) (by decide)).trans f24
          have mf21_a_25 := (c21.1 a 11 25 11 0 fsX12 ha rfl (by decide) (by decide)).trans fal
          have mc21_ao := (c21.2 ao 32 0 0 64 _ rao rfl (by decide)).trans cao
          have mc21_al := (c21.2 al 33 0 1 64 _ ral rfl (by decide)).trans cal
          refine W.eq (g2 := F0 m 71 ls20 [.int v21]) rfl ?_
          refine lv_aload_n hx hb (eX12_locals (71, .aload_n 0, 1) (List.mem_of_getElem? (i := 39) rfl)) rfl (lv_at hl20 4 rfl) ?_
          refine tz_get (r := 11) (k := 23) (t := (68, 0, 0)) hx hb hh21 ha rfl rfl (hcl11 47 23 (68, 0, 0) (by decide) rfl).1 mf21_a_23 (eX12_locals (72, .getfield 47, 3) (List.mem_of_getElem? (i := 40) rfl)) ?_
          refine lv_iload hx hb (eX12_locals (75, .iload 6, 2) (List.mem_of_getElem? (i := 41) rfl)) (lv_at hl20 2 rfl) ?_
          refine tz_iald hx hb (zAr hKn.1 0 (by decide)) mc21_ao (by omega) (by omega) (eX12_locals (77, .iaload, 1) (List.mem_of_getElem? (i := 42) rfl)) ?_
          rw [show iv.toNatClampNeg = k0 by show iv.toInt.toNat = _; omega, hz9]
          rw [htv] at e21
          refine ff_icmp_ne hx hb (eX12_locals (78, .if_icmp .ne 61, 3) (List.mem_of_getElem? (i := 43) rfl)) (tgt := 139) rfl (fun c22 => ?_) (fun c22 => ?_)
          · have hno : ¬ cnO L ze rr m0.toInt s0.toInt ov.toInt := fun g => by have g2 := g.2.2; omega
            refine ff_iinc (k := 2) hx hb (eX12_locals (139, .iinc 6 1, 3) (List.mem_of_getElem? (i := 75) rfl)) hl20 rfl (by decide) (by decide) (by decide) (by omega) (by omega) (fun v23 e23 ls23 hl23 => ?_)
            refine lv_goto hx hb (eX12_locals (142, .goto (-131), 3) (List.mem_of_getElem? (i := 76) rfl)) (tgt := 11) rfl ?_
            exact ih (k0 + 1) v23 nv A1 zl ls23 _ _ (by omega) (by omega) hnv (by omega) (by rw [fold_take hS9, ← hA1, clS_no hno]) hh21 kp21 jy21 jo21 mf21_a_25 mc21_al hjn (lv_sub hl23 [0, 3, 4, 5, 6, 7] rfl)
          · have hof : ofF L ze rr (stI L (m0.toInt - ov.toInt) + s0.toInt) = ov.toInt := by omega
            obtain ⟨hpw, hnew⟩ := cl_new (L := L) (e := ze) (r := rr) (m := m0.toInt) (s := s0.toInt) hnd hS9 hA1
            refine lv_iload hx hb (eX12_locals (81, .iload 5, 2) (List.mem_of_getElem? (i := 44) rfl)) (lv_at hl20 3 rfl) ?_
            refine lv_istore hx hb (eX12_locals (83, .istore 11, 2) (List.mem_of_getElem? (i := 45) rfl)) hl20 (by decide) rfl (fun ls24 hl24 => ?_)
            have lp2 : ∀ (i : Nat) (jv : Int32) (z1 : Nat → Value) (ls : Array Slot) (H : Heap) (lo0 : List Loc), i ≤ A1.length → jv.toInt = (i : Int) → (∀ q, q < i → z1 q = zl q) → (∀ q, i < q → q ≤ A1.length → z1 q = zl (q - 1)) → (∀ x ∈ A1.drop i, stI L (m0.toInt - ov.toInt) + s0.toInt < x) → zh_ok D cA RTg ro sz H0 H lo0 → zc_kept D RTg ro loM s.heap H → jRY D cA ro H a L (Z, R) → jOf D cA ro H a SS → zh_f D H a 11 25 = .ref al → H[al]? = some (arrV (cA 1) 64 z1) → lv_has ls 12 [(11, .int jv), (9, .long v19), (7, .long v9), (6, .int iv), (5, .int nv), (0, .ref a), (1, .int zi), (2, .long m0), (4, .int s0)] → W p l e (headSpec (gW yX12_locals cX12_locals 12 (some .int)) { frames := 5, cells := 0, slots := 0, locals := 143 }).room s m ([.ref a, .int zi, .long m0, .int s0] : List Value).toArray below meth c H lo0 0 0 (MQ below (fun _ st oc t => ∃ r : Int32, oc = .returned (some (.int r)) ∧ r.toInt = ((clF L ze rr m0.toInt s0.toInt).length : Int) ∧ zh_ok D cA RTg ro sz H0 t.heap [] ∧ zc_kept D RTg ro loM st.heap t.heap ∧ jLA D cA ro t.heap a (clF L ze rr m0.toInt s0.toInt)) ([.ref a, .int zi, .long m0, .int s0] : List Value).toArray s 0 0 (zy_fr sz)) (F0 m 85 ls []) := by
              intro i
              induction i with
              | zero =>
                intro jv z1 ls H lo0 hi hjv hb1 hb2 hgt hh1 kpm jym jom fam cam hl
                refine lv_iload hx hb (eX12_locals (85, .iload 11, 2) (List.mem_of_getElem? (i := 46) rfl)) (lv_at hl 0 rfl) ?_
                refine ff_if_le hx hb (eX12_locals (87, .ifCond .le 40, 3) (List.mem_of_getElem? (i := 47) rfl)) (tgt := 127) rfl (fun c25 => ?_) (fun c25 => (by exfalso; omega))
                refine lv_aload_n hx hb (eX12_locals (127, .aload_n 0, 1) (List.mem_of_getElem? (i := 69) rfl)) rfl (lv_at hl 5 rfl) ?_
                refine tz_get (r := 11) (k := 25) (t := (70, 0, 0)) hx hb hh1 ha rfl rfl (hcl11 50 25 (70, 0, 0) (by decide) rfl).1 fam (eX12_locals (128, .getfield 50, 3) (List.mem_of_getElem? (i := 70) rfl)) ?_
                refine lv_iload hx hb (eX12_locals (131, .iload 11, 2) (List.mem_of_getElem? (i := 71) rfl)) (lv_at hl 0 rfl) ?_
                refine lv_lload hx hb (eX12_locals (133, .lload 9, 2) (List.mem_of_getElem? (i := 72) rfl)) (lv_at hl 1 rfl) ?_
                obtain ⟨-, zz26, hcc26, hyy26⟩ := zh_arr hh1 ral (show RTg[33]? = some (1, 1, 64, [(1, (-100000000000000), 100000000000000)]) from rfl)
                refine tz_last hx hb (zAr hKn.1 1 (by decide)) hh1 ral (show RTg[33]? = some (1, 1, 64, [(1, (-100000000000000), 100000000000000)]) from rfl) cam (zs_arr (cam.symm.trans hcc26) hyy26) (by omega) (by omega) (tz_l (by omega) (by omega)) (eX12_locals (135, .lastore, 1) (List.mem_of_getElem? (i := 73) rfl)) (fun H26 lo26 hh26 hc26 hk26 hq26 _ => ?_)
                rw [show jv.toNatClampNeg = 0 by show jv.toInt.toNat = _; omega] at hc26
                have jy26 := jym.kept ha hk26 (by decide)
                have jo26 := jom.kept ha hk26 (by decide)
                have mf26_a_25 := (hk26.1 a 11 25 11 0 fsX12 ha rfl (by decide) (by decide)).trans fam
                have kp26 := kpm.trans (hk26.mono (ms' := loM) (fun x hx => by cases List.mem_singleton.mp hx; decide))
                have hjn9 := jN_ins (t := v19) (p := 0) (z' := updV z1 0 (.long v19)) (by omega) hjn (fun q hq => by rw [updV_ne (by omega)]; exact hb1 q (by omega)) updV_eq (fun q h1 h2 => by rw [updV_ne (by omega)]; exact hb2 q (by omega) h2)
                rw [htv] at hjn9
                refine ff_iinc (k := 4) hx hb (eX12_locals (136, .iinc 5 1, 3) (List.mem_of_getElem? (i := 74) rfl)) hl rfl (by decide) (by decide) (by decide) (by omega) (by omega) (fun v27 e27 ls27 hl27 => ?_)
                refine ff_iinc (k := 4) hx hb (eX12_locals (139, .iinc 6 1, 3) (List.mem_of_getElem? (i := 75) rfl)) hl27 rfl (by decide) (by decide) (by decide) (by omega) (by omega) (fun v28 e28 ls28 hl28 => ?_)
                refine lv_goto hx hb (eX12_locals (142, .goto (-131), 3) (List.mem_of_getElem? (i := 76) rfl)) (tgt := 11) rfl ?_
                have hcl : clS L ze rr m0.toInt s0.toInt A1 ov.toInt = A1.take 0 ++ (stI L (m0.toInt - ov.toInt) + s0.toInt) :: A1.drop 0 := by rw [clS_yes ⟨hmin, hsec, hof⟩]; exact insF_at (by omega) (by rw [List.take_zero]; exact fun x hx => by cases hx) hgt
                have hln : (A1.take 0 ++ (stI L (m0.toInt - ov.toInt) + s0.toInt) :: A1.drop 0).length = A1.length + 1 := by rw [List.length_append, List.length_cons, List.length_take, List.length_drop]; omega
                exact ih (k0 + 1) v28 v27 _ _ ls28 _ _ (by omega) (by omega) (by rw [hln]; show _ = ((A1.length + 1 : Nat) : Int); omega) (by rw [hln]; omega) (by rw [fold_take hS9, ← hA1, hcl]) hh26 kp26 jy26 jo26 mf26_a_25 hc26 hjn9 (lv_sub hl28 [0, 1, 5, 6, 7, 8] rfl)
              | succ i ih2 =>
                intro jv z1 ls H lo0 hi hjv hb1 hb2 hgt hh1 kpm jym jom fam cam hl
                obtain ⟨xv, hzx, hAx⟩ := hjn i (by omega)
                refine lv_iload hx hb (eX12_locals (85, .iload 11, 2) (List.mem_of_getElem? (i := 46) rfl)) (lv_at hl 0 rfl) ?_
                refine ff_if_le hx hb (eX12_locals (87, .ifCond .le 40, 3) (List.mem_of_getElem? (i := 47) rfl)) (tgt := 127) rfl (fun c29 => (by exfalso; omega)) (fun c29 => ?_)
                refine lv_aload_n hx hb (eX12_locals (90, .aload_n 0, 1) (List.mem_of_getElem? (i := 48) rfl)) rfl (lv_at hl 5 rfl) ?_
                refine tz_get (r := 11) (k := 25) (t := (70, 0, 0)) hx hb hh1 ha rfl rfl (hcl11 50 25 (70, 0, 0) (by decide) rfl).1 fam (eX12_locals (91, .getfield 50, 3) (List.mem_of_getElem? (i := 49) rfl)) ?_
                refine lv_iload hx hb (eX12_locals (94, .iload 11, 2) (List.mem_of_getElem? (i := 50) rfl)) (lv_at hl 0 rfl) ?_
                refine ff_iconst hx hb (eX12_locals (96, .iconst 1, 1) (List.mem_of_getElem? (i := 51) rfl)) (by decide) (by decide) (fun v30 e30 => ?_)
                refine ff_isub hx hb (eX12_locals (97, .isub, 1) (List.mem_of_getElem? (i := 52) rfl)) (by omega) (by omega) (fun v31 e31 => ?_)
                refine tz_lald hx hb (zAr hKn.1 1 (by decide)) cam (by omega) (by omega) (eX12_locals (98, .laload, 1) (List.mem_of_getElem? (i := 53) rfl)) ?_
                rw [show v31.toNatClampNeg = i by show v31.toInt.toNat = _; omega, hb1 i (by omega), hzx]
                refine lv_lload hx hb (eX12_locals (99, .lload 9, 2) (List.mem_of_getElem? (i := 54) rfl)) (lv_at hl 1 rfl) ?_
                refine ff_lcmp hx hb (eX12_locals (101, .lcmp, 1) (List.mem_of_getElem? (i := 55) rfl)) (fun v32 e32 => ?_)
                refine ff_if_le hx hb (eX12_locals (102, .ifCond .le 25, 3) (List.mem_of_getElem? (i := 56) rfl)) (tgt := 127) rfl (fun c33 => ?_) (fun c33 => ?_)
                · have hxt : xv.toInt < stI L (m0.toInt - ov.toInt) + s0.toInt := by have h9 : xv.toInt ≠ stI L (m0.toInt - ov.toInt) + s0.toInt := fun g => hnew (g ▸ List.mem_of_getElem? hAx); omega
                  refine lv_aload_n hx hb (eX12_locals (127, .aload_n 0, 1) (List.mem_of_getElem? (i := 69) rfl)) rfl (lv_at hl 5 rfl) ?_
                  refine tz_get (r := 11) (k := 25) (t := (70, 0, 0)) hx hb hh1 ha rfl rfl (hcl11 50 25 (70, 0, 0) (by decide) rfl).1 fam (eX12_locals (128, .getfield 50, 3) (List.mem_of_getElem? (i := 70) rfl)) ?_
                  refine lv_iload hx hb (eX12_locals (131, .iload 11, 2) (List.mem_of_getElem? (i := 71) rfl)) (lv_at hl 0 rfl) ?_
                  refine lv_lload hx hb (eX12_locals (133, .lload 9, 2) (List.mem_of_getElem? (i := 72) rfl)) (lv_at hl 1 rfl) ?_
                  obtain ⟨-, zz34, hcc34, hyy34⟩ := zh_arr hh1 ral (show RTg[33]? = some (1, 1, 64, [(1, (-100000000000000), 100000000000000)]) from rfl)
                  refine tz_last hx hb (zAr hKn.1 1 (by decide)) hh1 ral (show RTg[33]? = some (1, 1, 64, [(1, (-100000000000000), 100000000000000)]) from rfl) cam (zs_arr (cam.symm.trans hcc34) hyy34) (by omega) (by omega) (tz_l (by omega) (by omega)) (eX12_locals (135, .lastore, 1) (List.mem_of_getElem? (i := 73) rfl)) (fun H34 lo34 hh34 hc34 hk34 hq34 _ => ?_)
                  rw [show jv.toNatClampNeg = (i + 1) by show jv.toInt.toNat = _; omega] at hc34
                  have jy34 := jym.kept ha hk34 (by decide)
                  have jo34 := jom.kept ha hk34 (by decide)
                  have mf34_a_25 := (hk34.1 a 11 25 11 0 fsX12 ha rfl (by decide) (by decide)).trans fam
                  have kp34 := kpm.trans (hk34.mono (ms' := loM) (fun x hx => by cases List.mem_singleton.mp hx; decide))
                  have hjn9 := jN_ins (t := v19) (p := (i + 1)) (z' := updV z1 (i + 1) (.long v19)) (by omega) hjn (fun q hq => by rw [updV_ne (by omega)]; exact hb1 q (by omega)) updV_eq (fun q h1 h2 => by rw [updV_ne (by omega)]; exact hb2 q (by omega) h2)
                  rw [htv] at hjn9
                  refine ff_iinc (k := 4) hx hb (eX12_locals (136, .iinc 5 1, 3) (List.mem_of_getElem? (i := 74) rfl)) hl rfl (by decide) (by decide) (by decide) (by omega) (by omega) (fun v35 e35 ls35 hl35 => ?_)
                  refine ff_iinc (k := 4) hx hb (eX12_locals (139, .iinc 6 1, 3) (List.mem_of_getElem? (i := 75) rfl)) hl35 rfl (by decide) (by decide) (by decide) (by omega) (by omega) (fun v36 e36 ls36 hl36 => ?_)
                  refine lv_goto hx hb (eX12_locals (142, .goto (-131), 3) (List.mem_of_getElem? (i := 76) rfl)) (tgt := 11) rfl ?_
                  have hcl : clS L ze rr m0.toInt s0.toInt A1 ov.toInt = A1.take (i + 1) ++ (stI L (m0.toInt - ov.toInt) + s0.toInt) :: A1.drop (i + 1) := by rw [clS_yes ⟨hmin, hsec, hof⟩]; exact insF_at (by omega) (pw_take hpw hAx hxt) hgt
                  have hln : (A1.take (i + 1) ++ (stI L (m0.toInt - ov.toInt) + s0.toInt) :: A1.drop (i + 1)).length = A1.length + 1 := by rw [List.length_append, List.length_cons, List.length_take, List.length_drop]; omega
                  exact ih (k0 + 1) v36 v35 _ _ ls36 _ _ (by omega) (by omega) (by rw [hln]; show _ = ((A1.length + 1 : Nat) : Int); omega) (by rw [hln]; omega) (by rw [fold_take hS9, ← hA1, hcl]) hh34 kp34 jy34 jo34 mf34_a_25 hc34 hjn9 (lv_sub hl36 [0, 1, 5, 6, 7, 8] rfl)
                · obtain ⟨-, xz, dz, hz0⟩ := zh_arr hh1 ral (show RTg[33]? = some (1, 1, 64, [(1, (-100000000000000), 100000000000000)]) from rfl)
                  have hzT : ∀ i, i < 64 → zt_ok ro (z1 i) (1, -100000000000000, 100000000000000) := zs_arr (cam.symm.trans dz) hz0
                  obtain ⟨y9, e99, lx9, mx9⟩ := hzT i (by omega)
                  cases ((hb1 i (by omega)).trans hzx).symm.trans e99
                  dsimp only at lx9 mx9
                  clear e99 hzT hz0 dz
                  refine lv_aload_n hx hb (eX12_locals (105, .aload_n 0, 1) (List.mem_of_getElem? (i := 57) rfl)) rfl (lv_at hl 5 rfl) ?_
                  refine tz_get (r := 11) (k := 25) (t := (70, 0, 0)) hx hb hh1 ha rfl rfl (hcl11 50 25 (70, 0, 0) (by decide) rfl).1 fam (eX12_locals (106, .getfield 50, 3) (List.mem_of_getElem? (i := 58) rfl)) ?_
                  refine lv_iload hx hb (eX12_locals (109, .iload 11, 2) (List.mem_of_getElem? (i := 59) rfl)) (lv_at hl 0 rfl) ?_
                  refine lv_aload_n hx hb (eX12_locals (111, .aload_n 0, 1) (List.mem_of_getElem? (i := 60) rfl)) rfl (lv_at hl 5 rfl) ?_
                  refine tz_get (r := 11) (k := 25) (t := (70, 0, 0)) hx hb hh1 ha rfl rfl (hcl11 50 25 (70, 0, 0) (by decide) rfl).1 fam (eX12_locals (112, .getfield 50, 3) (List.mem_of_getElem? (i := 61) rfl)) ?_
                  refine lv_iload hx hb (eX12_locals (115, .iload 11, 2) (List.mem_of_getElem? (i := 62) rfl)) (lv_at hl 0 rfl) ?_
                  refine ff_iconst hx hb (eX12_locals (117, .iconst 1, 1) (List.mem_of_getElem? (i := 63) rfl)) (by decide) (by decide) (fun v37 e37 => ?_)
                  refine ff_isub hx hb (eX12_locals (118, .isub, 1) (List.mem_of_getElem? (i := 64) rfl)) (by omega) (by omega) (fun v38 e38 => ?_)
                  refine tz_lald hx hb (zAr hKn.1 1 (by decide)) cam (by omega) (by omega) (eX12_locals (119, .laload, 1) (List.mem_of_getElem? (i := 65) rfl)) ?_
                  rw [show v38.toNatClampNeg = i by show v38.toInt.toNat = _; omega, hb1 i (by omega), hzx]
                  obtain ⟨-, zz39, hcc39, hyy39⟩ := zh_arr hh1 ral (show RTg[33]? = some (1, 1, 64, [(1, (-100000000000000), 100000000000000)]) from rfl)
                  refine tz_last hx hb (zAr hKn.1 1 (by decide)) hh1 ral (show RTg[33]? = some (1, 1, 64, [(1, (-100000000000000), 100000000000000)]) from rfl) cam (zs_arr (cam.symm.trans hcc39) hyy39) (by omega) (by omega) (tz_l (by omega) (by omega)) (eX12_locals (120, .lastore, 1) (List.mem_of_getElem? (i := 66) rfl)) (fun H39 lo39 hh39 hc39 hk39 hq39 _ => ?_)
                  rw [show jv.toNatClampNeg = (i + 1) by show jv.toInt.toNat = _; omega] at hc39
                  rw [show (Value.long xv) = zl i from hzx.symm] at hc39
                  have jy39 := jym.kept ha hk39 (by decide)
                  have jo39 := jom.kept ha hk39 (by decide)
                  have mf39_a_25 := (hk39.1 a 11 25 11 0 fsX12 ha rfl (by decide) (by decide)).trans fam
                  have kp39 := kpm.trans (hk39.mono (ms' := loM) (fun x hx => by cases List.mem_singleton.mp hx; decide))
                  refine ff_iinc (k := 0) hx hb (eX12_locals (121, .iinc 11 (-1), 3) (List.mem_of_getElem? (i := 67) rfl)) hl rfl (by decide) (by decide) (by decide) (by omega) (by omega) (fun v40 e40 ls40 hl40 => ?_)
                  refine lv_goto hx hb (eX12_locals (124, .goto (-39), 3) (List.mem_of_getElem? (i := 68) rfl)) (tgt := 85) rfl ?_
                  exact ih2 v40 _ ls40 _ _ (by omega) (by omega) (fun q hq => by rw [updV_ne (by omega)]; exact hb1 q (by omega)) (fun q h1 h2 => by by_cases e9 : q = i + 1; (subst e9; rw [updV_eq]; rfl); (rw [updV_ne e9]; exact hb2 q (by omega) h2)) (pw_drop hAx (by omega) hgt) hh39 kp39 jy39 jo39 mf39_a_25 hc39 (lv_sub hl40 [0, 1, 2, 3, 4, 5, 6, 7, 8] rfl)
            exact lp2 A1.length nv zl ls24 _ _ (Nat.le_refl _) (by omega) (fun q _ => rfl) (fun q h1 h2 => by omega) (by rw [List.drop_eq_nil_of_le (Nat.le_refl _)]; exact fun x hx => by cases hx) hh21 kp21 jy21 jo21 mf21_a_25 mc21_al (lv_sub hl24 [0, 1, 2, 3, 4, 5, 6, 7, 8] rfl)
  exact loop SS.length 0 v4 v2 [] zl0 ls5 _ _ (by omega) (by omega) (by show _ = ((0 : Nat) : Int); omega) (Nat.le_refl _) rfl hh1 kp1 jy1 jo1 fal0 cal0 (fun i hi => absurd hi (Nat.not_lt_zero _)) (lv_sub hl5 [0, 1, 2, 3, 4, 5] rfl)
