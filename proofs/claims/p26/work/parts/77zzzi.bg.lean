def jBg (D : va_G) (cA : Nat → ClassId) (ro : Nat → Option Nat) (H : Heap) (a : Nat) (B : List Int) : Prop := ∃ (ag : Nat) (zg : Nat → Value) (n : Int32), zh_f D H a 11 26 = .ref ag ∧ ro ag = some 34 ∧ H[ag]? = some (arrV (cA 1) 128 zg) ∧ zh_f D H a 11 27 = .int n ∧ n.toInt = (B.length : Int) ∧ jN B zg
theorem jBg.kept {D : va_G} {cA : Nat → ClassId} {ro : Nat → Option Nat} {H H' : Heap} {ms : List (Nat × Nat)} {a : Nat} {B : List Int} (ha : ro a = some 11) (h : zc_kept D RTg ro ms H H') (hm : ∀ y ∈ [(11, 26), (11, 27), (34, 0)], y ∉ ms) (j : jBg D cA ro H a B) : jBg D cA ro H' a B := by
  obtain ⟨ag, zg, n, f1, r1, c1, f2, hn, hz⟩ := j
  exact ⟨ag, zg, n, (h.1 a 11 26 11 0 fsX12 ha rfl (by decide) (hm _ (by decide))).trans f1, r1, (h.2 ag 34 0 1 128 _ r1 rfl (hm _ (by decide))).trans c1, (h.1 a 11 27 11 0 fsX12 ha rfl (by decide) (hm _ (by decide))).trans f2, hn, hz⟩
def bgM : List (Nat × Nat) := [(11, 18), (11, 19), (11, 20), (11, 21), (11, 22), (11, 27), (34, 0)]
def lbM : List (Nat × Nat) := [(11, 18), (11, 19), (11, 20), (11, 21), (11, 22), (11, 27), (11, 28), (34, 0)]
theorem bg_step {P Q : Int → Prop} {B B' : List Int} {u : Int} (h : ∀ x, x ∈ B ↔ P x ∧ Q x) (h' : ∀ x, x ∈ B' ↔ x ∈ B ∨ (x = u ∧ Q u)) : ∀ x, x ∈ B' ↔ (P x ∨ x = u) ∧ Q x := by
  intro x
  rw [h', h]
  constructor
  · rintro (⟨g1, g2⟩ | ⟨g1, g2⟩)
    · exact ⟨Or.inl g1, g2⟩
    · exact ⟨Or.inr g1, by rw [g1]; exact g2⟩
  · rintro ⟨g1 | g1, g2⟩
    · exact Or.inl ⟨g1, g2⟩
    · exact Or.inr ⟨g1, by rw [g1] at g2; exact g2⟩
theorem bg_iff {P P' Q : Int → Prop} {B : List Int} (h : ∀ x, x ∈ B ↔ P x ∧ Q x) (g : ∀ x, P x ↔ P' x) : ∀ x, x ∈ B ↔ P' x ∧ Q x := by
  intro x
  rw [h, g]
theorem tk_step {C : List (Int × Int)} {i : Nat} {c : Int × Int} (h : C[i]? = some c) (x : Int) : ((∃ d ∈ C.take i, d.1 = x) ∨ x = c.1) ↔ ∃ d ∈ C.take (i + 1), d.1 = x := by
  rw [List.take_add_one, h]
  constructor
  · rintro (⟨d, g1, g2⟩ | g)
    · exact ⟨d, List.mem_append_left _ g1, g2⟩
    · exact ⟨c, List.mem_append_right _ List.mem_cons_self, g.symm⟩
  · rintro ⟨d, g1, g2⟩
    rcases List.mem_append.mp g1 with g | g
    · exact Or.inl ⟨d, g, g2⟩
    · have g : d ∈ [c] := g
      rw [List.mem_singleton.mp g] at g2
      exact Or.inr g2.symm
theorem yr_step {L : List Int} {r : rU} {A : Int → Prop} {l v u1 u2 u3 : Int} (hl : l ≤ v) (h1 : u1 = stI L (fmF r v)) (h2 : u2 = stI L (tmF r v)) (h3 : u3 = stI L (ymF r v)) (x : Int) : ((((A x ∨ ∃ y, l ≤ y ∧ y < v ∧ edY L r y x) ∨ x = u1) ∨ x = u2) ∨ x = u3) ↔ (A x ∨ ∃ y, l ≤ y ∧ y < v + 1 ∧ edY L r y x) := by
  constructor
  · rintro ((((g | ⟨y, g1, g2, g3⟩) | g) | g) | g)
    · exact Or.inl g
    · exact Or.inr ⟨y, g1, by omega, g3⟩
    · exact Or.inr ⟨v, hl, by omega, Or.inl (by rw [g, h1])⟩
    · exact Or.inr ⟨v, hl, by omega, Or.inr (Or.inl (by rw [g, h2]))⟩
    · exact Or.inr ⟨v, hl, by omega, Or.inr (Or.inr (by rw [g, h3]))⟩
  · rintro (g | ⟨y, g1, g2, g3⟩)
    · exact Or.inl (Or.inl (Or.inl (Or.inl g)))
    · by_cases e : y = v
      · rw [e] at g3
        rcases g3 with g | g | g
        · exact Or.inl (Or.inl (Or.inr (by rw [g, h1])))
        · exact Or.inl (Or.inr (by rw [g, h2]))
        · exact Or.inr (by rw [g, h3])
      · exact Or.inl (Or.inl (Or.inl (Or.inr ⟨y, g1, by omega, g3⟩)))
set_option maxRecDepth 100000 in
set_option maxHeartbeats 4000000 in
theorem hX12_offsetAtChange (l : Launch) (D : va_G) (cA : Nat → ClassId) (ro : Nat → Option Nat) (sz : Nat) (H0 : Heap) (a : Nat) (t0 : Int64) (L : List Int) (Z : List zE) (R : List rU) (i0 : Nat) (ze : zE) (rr : rU) (bz : Int32) (ha : ro a = some 11) (hbz : bz.toInt = (i0 : Int)) (hze : Z[i0]? = some ze) (hrr : R[i0]? = some rr) (ht1 : -31900000000000 ≤ t0.toInt) (ht2 : t0.toInt ≤ 31900000000000) : Met l yX12_offsetAtChange (gW yX12_offsetAtChange cX12_offsetAtChange 3 (some .boolean)) { frames := 5, cells := 0, slots := 0, locals := 143 } (zs_P D cA ro sz H0 (fun H => jRY D cA ro H a L (Z, R) ∧ zh_f D H a 11 28 = .int bz) [.ref a, .long t0]) (fun _ st oc t => ∃ r : Int32, oc = .returned (some (.int r)) ∧ ((r.toInt = 1 ∧ isC L ze rr t0.toInt) ∨ (r.toInt = 0 ∧ ¬ isC L ze rr t0.toInt)) ∧ zh_ok D cA RTg ro sz H0 t.heap [] ∧ zc_kept D RTg ro [(11, 18), (11, 19), (11, 20), (11, 21), (11, 22)] st.heap t.heap) 0 0 (zy_fr sz) := by
  refine zy_ofW (cc := cX12_offsetAtChange) (maxL := 3) (ret := (some .boolean)) (by decide +kernel) rfl ?_
  intro p e s m args below meth c s1 B hml hv
  obtain ⟨rfl, hh, hKn, hJ⟩ := hv
  have hx := B.exec
  have hb := B.bytes
  have hr := B.returns
  have hlk := B.notSynchronized
  have hts0 := atoms_spec (ws := gW yX12_offsetAtChange cX12_offsetAtChange 3 (some .boolean)) B.pre
  have h2 : ∀ w ∈ gT, w.before ([.ref a, .long t0] : List Value).toArray s = true := fun w hw => hts0 w (List.mem_cons_of_mem _ hw)
  have hown : s.vm.findClass RX12 = some m.cls := findClass_of_methodNamed B.named
  have hl := lv_entry [.ref a, .long t0] (n := 3) (Nat.le_of_ble_eq_true rfl)
  rw [lg_entry_eq]
  generalize (lg_sl [.ref a, .long t0] ++ List.replicate (3 - (lg_sl [.ref a, .long t0]).length) Slot.unset).toArray = ls at hl ⊢
  have b_t0 := zn_i64 t0
  have hD := zD_all h2 hKn.1
  have hcl11 := fun (idx k : Nat) (t : zt_T) (h : (idx, 11, k) ∈ gfX12) (hk : fsX12[k]? = some t) => zf_clause (ro := ro) (ms := [(11, 18), (11, 19), (11, 20), (11, 21), (11, 22)]) h2 hown hKn.1 gfX12_ok (by decide +kernel) idx 11 k 11 0 fsX12 t h rfl hk
  have kp0 : zc_kept D RTg ro [(11, 18), (11, 19), (11, 20), (11, 21), (11, 22)] s.heap s.heap := zc_kept.refl
  obtain ⟨jy0, fbz⟩ := id hJ
  refine lv_aload_n hx hb (eX12_offsetAtChange (0, .aload_n 0, 1) (List.mem_of_getElem? (i := 0) rfl)) rfl (lv_at hl 0 rfl) ?_
  refine lv_aload_n hx hb (eX12_offsetAtChange (1, .aload_n 0, 1) (List.mem_of_getElem? (i := 1) rfl)) rfl (lv_at hl 0 rfl) ?_
  refine tz_get (r := 11) (k := 28) (t := (0, 0, 7)) hx hb hh ha rfl rfl (hcl11 256 28 (0, 0, 7) (by decide) rfl).1 fbz (eX12_offsetAtChange (2, .getfield 256, 3) (List.mem_of_getElem? (i := 2) rfl)) ?_
  refine lv_lload_n hx hb (eX12_offsetAtChange (5, .lload_n 1, 1) (List.mem_of_getElem? (i := 3) rfl)) rfl (lv_at hl 1 rfl) ?_
  refine tz_rowV (As := [.int bz, .long t0]) (st := []) (b := a) (C := RX12) (Ts := gT) hx hb hml hown h2 (fun _ h => h) (hX12_offsetAt l D cA ro sz H0 a bz t0 L Z R i0 ze rr ha hbz hze hrr (by omega) (by omega)) ⟨rfl, rfl⟩ ⟨by decide, by decide⟩ ⟨by decide, by decide⟩ (tb_7 170 rfl rfl) (tb_1 12 rfl rfl) (tb_7 167 rfl rfl) (tb_7 169 rfl rfl) (tb_0 16 rfl rfl) (show yX12_offsetAt.cls ≠ "java/lang/invoke/MethodHandle" ∧ yX12_offsetAt.cls ≠ "java/lang/invoke/VarHandle" ∧ (parseMethodDescriptor yX12_offsetAt.desc).map (fun d => d.parameters.length) = some 2 by decide +kernel) zs_blind (zs_ob hh ha (show RTg[11]? = some (0, 11, 0, fsX12) from rfl) (zCX12 hKn.1)) (fun U hU hW => ⟨rfl, by rw [hU]; exact hh.l0, zKb s U hW.alike hKn, by rw [hU]; exact jy0⟩) hh.2.2.1 hl.1 (Nat.le_of_ble_eq_true rfl) (eX12_offsetAtChange (6, .invokevirtual 233, 3) (List.mem_of_getElem? (i := 4) rfl)) (fun r1 s1 t1 lo1 g1 f1 l1 => ?_)
  obtain ⟨v1, q1, e1, z1, c1⟩ := f1
  cases q1
  rw [g1] at c1
  have hh1 : zh_ok D cA RTg ro sz H0 t1.heap lo1 := ⟨z1.1, z1.2.1, l1, z1.2.2.2⟩
  have kp1 := kp0.trans (c1.mono (ms' := [(11, 18), (11, 19), (11, 20), (11, 21), (11, 22)]) (by decide))
  have jy1 := jy0.kept ha c1 (by decide)
  have mf1_a_28 := (c1.1 a 11 28 11 0 fsX12 ha rfl (by decide) (by decide)).trans fbz
  refine W.eq (g2 := F0 m 9 ls [.int v1]) rfl ?_
  refine lv_aload_n hx hb (eX12_offsetAtChange (9, .aload_n 0, 1) (List.mem_of_getElem? (i := 5) rfl)) rfl (lv_at hl 0 rfl) ?_
  refine lv_aload_n hx hb (eX12_offsetAtChange (10, .aload_n 0, 1) (List.mem_of_getElem? (i := 6) rfl)) rfl (lv_at hl 0 rfl) ?_
  refine tz_get (r := 11) (k := 28) (t := (0, 0, 7)) hx hb hh1 ha rfl rfl (hcl11 256 28 (0, 0, 7) (by decide) rfl).1 mf1_a_28 (eX12_offsetAtChange (11, .getfield 256, 3) (List.mem_of_getElem? (i := 7) rfl)) ?_
  refine lv_lload_n hx hb (eX12_offsetAtChange (14, .lload_n 1, 1) (List.mem_of_getElem? (i := 8) rfl)) rfl (lv_at hl 1 rfl) ?_
  refine ff_lconst hx hb (eX12_offsetAtChange (15, .lconst 1, 1) (List.mem_of_getElem? (i := 9) rfl)) rfl (fun v2 e2 => ?_)
  refine ff_lsub hx hb (eX12_offsetAtChange (16, .lsub, 1) (List.mem_of_getElem? (i := 10) rfl)) (by omega) (by omega) (fun v3 e3 => ?_)
  refine tz_rowV (As := [.int bz, .long v3]) (st := [.int v1]) (b := a) (C := RX12) (Ts := gT) hx hb hml hown h2 (fun _ h => h) (hX12_offsetAt l D cA ro sz H0 a bz v3 L Z R i0 ze rr ha hbz hze hrr (by omega) (by omega)) ⟨rfl, rfl⟩ ⟨by decide, by decide⟩ ⟨by decide, by decide⟩ (tb_7 170 rfl rfl) (tb_1 12 rfl rfl) (tb_7 167 rfl rfl) (tb_7 169 rfl rfl) (tb_0 16 rfl rfl) (show yX12_offsetAt.cls ≠ "java/lang/invoke/MethodHandle" ∧ yX12_offsetAt.cls ≠ "java/lang/invoke/VarHandle" ∧ (parseMethodDescriptor yX12_offsetAt.desc).map (fun d => d.parameters.length) = some 2 by decide +kernel) zs_blind (zs_ob hh1 ha (show RTg[11]? = some (0, 11, 0, fsX12) from rfl) (zCX12 hKn.1)) (fun U hU hW => ⟨rfl, by rw [hU]; exact hh1.l0, zKb s U hW.alike hKn, by rw [hU]; exact jy1⟩) hh1.2.2.1 hl.1 (Nat.le_of_ble_eq_true rfl) (eX12_offsetAtChange (17, .invokevirtual 233, 3) (List.mem_of_getElem? (i := 11) rfl)) (fun r4 s4 t4 lo4 g4 f4 l4 => ?_)
  obtain ⟨v4, q4, e4, z4, c4⟩ := f4
  cases q4
  rw [g4] at c4
  have hh4 : zh_ok D cA RTg ro sz H0 t4.heap lo4 := ⟨z4.1, z4.2.1, l4, z4.2.2.2⟩
  have kp4 := kp1.trans (c4.mono (ms' := [(11, 18), (11, 19), (11, 20), (11, 21), (11, 22)]) (by decide))
  have jy4 := jy1.kept ha c4 (by decide)
  have mf4_a_28 := (c4.1 a 11 28 11 0 fsX12 ha rfl (by decide) (by decide)).trans mf1_a_28
  rw [show v3.toInt = t0.toInt - 1 by omega] at e4
  refine W.eq (g2 := F0 m 20 ls [.int v4, .int v1]) rfl ?_
  refine ff_icmp_eq hx hb (eX12_offsetAtChange (20, .if_icmp .eq 7, 3) (List.mem_of_getElem? (i := 12) rfl)) (tgt := 27) rfl (fun c5 => ?_) (fun c5 => ?_)
  · skip
    refine ff_iconst hx hb (eX12_offsetAtChange (27, .iconst 0, 1) (List.mem_of_getElem? (i := 15) rfl)) (by decide) (by decide) (fun v6 e6 => ?_)
    exact W.zret hx hb hr (zn_bool (by omega) (by omega)) (fun t ht hW => ⟨_, rfl, Or.inr ⟨by omega, fun g => g (by omega)⟩, by rw [ht]; exact hh4.l0, by rw [ht]; exact kp4⟩) hh4.2.2.1 (eX12_offsetAtChange (28, .ireturn, 1) (List.mem_of_getElem? (i := 16) rfl))
  · skip
    refine ff_iconst hx hb (eX12_offsetAtChange (23, .iconst 1, 1) (List.mem_of_getElem? (i := 13) rfl)) (by decide) (by decide) (fun v7 e7 => ?_)
    refine lv_goto hx hb (eX12_offsetAtChange (24, .goto 4, 3) (List.mem_of_getElem? (i := 14) rfl)) (tgt := 28) rfl ?_
    exact W.zret hx hb hr (zn_bool (by omega) (by omega)) (fun t ht hW => ⟨_, rfl, Or.inl ⟨by omega, fun g => by omega⟩, by rw [ht]; exact hh4.l0, by rw [ht]; exact kp4⟩) hh4.2.2.1 (eX12_offsetAtChange (28, .ireturn, 1) (List.mem_of_getElem? (i := 16) rfl))
set_option maxRecDepth 100000 in
set_option maxHeartbeats 4000000 in
theorem hX12_begin (l : Launch) (D : va_G) (cA : Nat → ClassId) (ro : Nat → Option Nat) (sz : Nat) (H0 : Heap) (a : Nat) (t0 : Int64) (ab : Int64) (be : Int64) (L : List Int) (Z : List zE) (R : List rU) (i0 : Nat) (ze : zE) (rr : rU) (bz : Int32) (Bg : List Int) (ha : ro a = some 11) (hbz : bz.toInt = (i0 : Int)) (hze : Z[i0]? = some ze) (hrr : R[i0]? = some rr) (hBl : Bg.length < 128) (ht1 : -100000000000000 ≤ t0.toInt) (ht2 : t0.toInt ≤ 100000000000000) : Met l yX12_begin (gW yX12_begin cX12_begin 7 none) { frames := 6, cells := 0, slots := 0, locals := 165 } (zs_P D cA ro sz H0 (fun H => jRY D cA ro H a L (Z, R) ∧ jBg D cA ro H a Bg ∧ zh_f D H a 11 28 = .int bz) [.ref a, .long t0, .long ab, .long be]) (fun _ st oc t => oc = .returned none ∧ zh_ok D cA RTg ro sz H0 t.heap [] ∧ zc_kept D RTg ro bgM st.heap t.heap ∧ ∃ B1 : List Int, jBg D cA ro t.heap a B1 ∧ B1.length ≤ Bg.length + 1 ∧ ∀ x, x ∈ B1 ↔ x ∈ Bg ∨ (x = t0.toInt ∧ bgC L ze rr ab.toInt be.toInt t0.toInt)) 0 0 (zy_fr sz) := by
  refine zy_ofW (cc := cX12_begin) (maxL := 7) (ret := none) (by decide +kernel) rfl ?_
  intro p e s m args below meth c s1 B hml hv
  obtain ⟨rfl, hh, hKn, hJ⟩ := hv
  have hx := B.exec
  have hb := B.bytes
  have hr := B.returns
  have hlk := B.notSynchronized
  have hts0 := atoms_spec (ws := gW yX12_begin cX12_begin 7 none) B.pre
  have h2 : ∀ w ∈ gT, w.before ([.ref a, .long t0, .long ab, .long be] : List Value).toArray s = true := fun w hw => hts0 w (List.mem_cons_of_mem _ hw)
  have hown : s.vm.findClass RX12 = some m.cls := findClass_of_methodNamed B.named
  have hl := lv_entry [.ref a, .long t0, .long ab, .long be] (n := 7) (Nat.le_of_ble_eq_true rfl)
  rw [lg_entry_eq]
  generalize (lg_sl [.ref a, .long t0, .long ab, .long be] ++ List.replicate (7 - (lg_sl [.ref a, .long t0, .long ab, .long be]).length) Slot.unset).toArray = ls at hl ⊢
  have b_t0 := zn_i64 t0
  have b_ab := zn_i64 ab
  have b_be := zn_i64 be
  have hD := zD_all h2 hKn.1
  have hcl11 := fun (idx k : Nat) (t : zt_T) (h : (idx, 11, k) ∈ gfX12) (hk : fsX12[k]? = some t) => zf_clause (ro := ro) (ms := bgM) h2 hown hKn.1 gfX12_ok (by decide +kernel) idx 11 k 11 0 fsX12 t h rfl hk
  have kp0 : zc_kept D RTg ro bgM s.heap s.heap := zc_kept.refl
  obtain ⟨jy0, ⟨ag, zg, bn, f26, rag, cag, f27, hbn, hjg⟩, fbz⟩ := id hJ
  have hjL : L.length ≤ 40 := jy0.1.2.2.1.2.1
  have hlb1 := lsI_b hjL (-365961662)
  have hlb2 := lsI_b hjL 364522972
  refine lv_lload_n hx hb (eX12_begin (0, .lload_n 1, 1) (List.mem_of_getElem? (i := 0) rfl)) rfl (lv_at hl 1 rfl) ?_
  refine lv_lload_n hx hb (eX12_begin (1, .lload_n 3, 1) (List.mem_of_getElem? (i := 1) rfl)) rfl (lv_at hl 2 rfl) ?_
  refine ff_lcmp hx hb (eX12_begin (2, .lcmp, 1) (List.mem_of_getElem? (i := 2) rfl)) (fun v1 e1 => ?_)
  refine ff_if_le hx hb (eX12_begin (3, .ifCond .le 56, 3) (List.mem_of_getElem? (i := 3) rfl)) (tgt := 59) rfl (fun c2 => ?_) (fun c2 => ?_)
  · skip
    have hno : ¬ bgC L ze rr ab.toInt be.toInt t0.toInt := fun g => by have g1 := g.1; omega
    exact W.vret hx hb hr (fun t ht hW => ⟨rfl, by rw [ht]; exact hh.l0, by rw [ht]; exact kp0, Bg, by rw [ht]; exact ⟨ag, zg, bn, f26, rag, cag, f27, hbn, hjg⟩, Nat.le_succ _, fun x => ⟨Or.inl, fun h => h.elim id (fun g => absurd g.2 hno)⟩⟩) hh.2.2.1 (eX12_begin (59, .return_, 1) (List.mem_of_getElem? (i := 34) rfl))
  · skip
    refine lv_lload_n hx hb (eX12_begin (6, .lload_n 1, 1) (List.mem_of_getElem? (i := 4) rfl)) rfl (lv_at hl 1 rfl) ?_
    refine lv_lload hx hb (eX12_begin (7, .lload 5, 2) (List.mem_of_getElem? (i := 5) rfl)) (lv_at hl 3 rfl) ?_
    refine ff_lcmp hx hb (eX12_begin (9, .lcmp, 1) (List.mem_of_getElem? (i := 6) rfl)) (fun v3 e3 => ?_)
    refine ff_if_ge hx hb (eX12_begin (10, .ifCond .ge 49, 3) (List.mem_of_getElem? (i := 7) rfl)) (tgt := 59) rfl (fun c4 => ?_) (fun c4 => ?_)
    · skip
      have hno : ¬ bgC L ze rr ab.toInt be.toInt t0.toInt := fun g => by have g1 := g.2.1; omega
      exact W.vret hx hb hr (fun t ht hW => ⟨rfl, by rw [ht]; exact hh.l0, by rw [ht]; exact kp0, Bg, by rw [ht]; exact ⟨ag, zg, bn, f26, rag, cag, f27, hbn, hjg⟩, Nat.le_succ _, fun x => ⟨Or.inl, fun h => h.elim id (fun g => absurd g.2 hno)⟩⟩) hh.2.2.1 (eX12_begin (59, .return_, 1) (List.mem_of_getElem? (i := 34) rfl))
    · skip
      refine lv_aload_n hx hb (eX12_begin (13, .aload_n 0, 1) (List.mem_of_getElem? (i := 8) rfl)) rfl (lv_at hl 0 rfl) ?_
      refine lv_lload_n hx hb (eX12_begin (14, .lload_n 1, 1) (List.mem_of_getElem? (i := 9) rfl)) rfl (lv_at hl 1 rfl) ?_
      refine tz_rowV (As := [.long t0]) (st := []) (b := a) (C := RX12) (Ts := gT) hx hb hml hown h2 (fun _ h => h) (hX12_isInstant l D cA ro sz H0 a t0 L ha) ⟨rfl, rfl⟩ ⟨by decide, by decide⟩ ⟨by decide, by decide⟩ (tb_7 141 rfl rfl) (tb_1 12 rfl rfl) (tb_7 138 rfl rfl) (tb_7 140 rfl rfl) (tb_0 13 rfl rfl) (show yX12_isInstant.cls ≠ "java/lang/invoke/MethodHandle" ∧ yX12_isInstant.cls ≠ "java/lang/invoke/VarHandle" ∧ (parseMethodDescriptor yX12_isInstant.desc).map (fun d => d.parameters.length) = some 1 by decide +kernel) zs_blind (zs_ob hh ha (show RTg[11]? = some (0, 11, 0, fsX12) from rfl) (zCX12 hKn.1)) (fun U hU hW => ⟨rfl, by rw [hU]; exact hh.l0, zKb s U hW.alike hKn, by rw [hU]; exact jy0.1.1⟩) hh.2.2.1 hl.1 (Nat.le_of_ble_eq_true rfl) (eX12_begin (15, .invokevirtual 207, 3) (List.mem_of_getElem? (i := 10) rfl)) (fun r5 s5 t5 lo5 g5 f5 l5 => ?_)
      obtain ⟨z5, v5, q5, e5⟩ := f5
      cases q5
      rw [z5, g5]
      have hh5 : zh_ok D cA RTg ro sz H0 s.heap lo5 := ⟨hh.1, hh.2.1, l5, hh.2.2.2⟩
      refine W.eq (g2 := F0 m 18 ls [.int v5]) rfl ?_
      refine ff_if_eq hx hb (eX12_begin (18, .ifCond .eq 41, 3) (List.mem_of_getElem? (i := 11) rfl)) (tgt := 59) rfl (fun c6 => ?_) (fun c6 => ?_)
      · have hno : ¬ bgC L ze rr ab.toInt be.toInt t0.toInt := fun g => by rcases e5 with h | h; exfalso; omega; exact h.2 g.2.2.1
        exact W.vret hx hb hr (fun t ht hW => ⟨rfl, by rw [ht]; exact hh5.l0, by rw [ht]; exact kp0, Bg, by rw [ht]; exact ⟨ag, zg, bn, f26, rag, cag, f27, hbn, hjg⟩, Nat.le_succ _, fun x => ⟨Or.inl, fun h => h.elim id (fun g => absurd g.2 hno)⟩⟩) hh5.2.2.1 (eX12_begin (59, .return_, 1) (List.mem_of_getElem? (i := 34) rfl))
      · have hk1 : tOK t0.toInt L := by rcases e5 with h | h; exact h.2; exfalso; omega
        have htb : -31900000000000 ≤ t0.toInt ∧ t0.toInt ≤ 31900000000000 := by unfold tOK at hk1; omega
        refine lv_aload_n hx hb (eX12_begin (21, .aload_n 0, 1) (List.mem_of_getElem? (i := 12) rfl)) rfl (lv_at hl 0 rfl) ?_
        refine lv_lload_n hx hb (eX12_begin (22, .lload_n 1, 1) (List.mem_of_getElem? (i := 13) rfl)) rfl (lv_at hl 1 rfl) ?_
        refine ff_lconst hx hb (eX12_begin (23, .lconst 1, 1) (List.mem_of_getElem? (i := 14) rfl)) rfl (fun v7 e7 => ?_)
        refine ff_lsub hx hb (eX12_begin (24, .lsub, 1) (List.mem_of_getElem? (i := 15) rfl)) (by omega) (by omega) (fun v8 e8 => ?_)
        refine tz_rowV (As := [.long v8]) (st := []) (b := a) (C := RX12) (Ts := gT) hx hb hml hown h2 (fun _ h => h) (hX12_isInstant l D cA ro sz H0 a v8 L ha) ⟨rfl, rfl⟩ ⟨by decide, by decide⟩ ⟨by decide, by decide⟩ (tb_7 141 rfl rfl) (tb_1 12 rfl rfl) (tb_7 138 rfl rfl) (tb_7 140 rfl rfl) (tb_0 13 rfl rfl) (show yX12_isInstant.cls ≠ "java/lang/invoke/MethodHandle" ∧ yX12_isInstant.cls ≠ "java/lang/invoke/VarHandle" ∧ (parseMethodDescriptor yX12_isInstant.desc).map (fun d => d.parameters.length) = some 1 by decide +kernel) zs_blind (zs_ob hh5 ha (show RTg[11]? = some (0, 11, 0, fsX12) from rfl) (zCX12 hKn.1)) (fun U hU hW => ⟨rfl, by rw [hU]; exact hh5.l0, zKb s U hW.alike hKn, by rw [hU]; exact jy0.1.1⟩) hh5.2.2.1 hl.1 (Nat.le_of_ble_eq_true rfl) (eX12_begin (25, .invokevirtual 207, 3) (List.mem_of_getElem? (i := 16) rfl)) (fun r9 s9 t9 lo9 g9 f9 l9 => ?_)
        obtain ⟨z9, v9, q9, e9⟩ := f9
        cases q9
        rw [z9, g9]
        have hh9 : zh_ok D cA RTg ro sz H0 s.heap lo9 := ⟨hh5.1, hh5.2.1, l9, hh5.2.2.2⟩
        rw [show v8.toInt = t0.toInt - 1 by omega] at e9
        refine W.eq (g2 := F0 m 28 ls [.int v9]) rfl ?_
        refine ff_if_eq hx hb (eX12_begin (28, .ifCond .eq 31, 3) (List.mem_of_getElem? (i := 17) rfl)) (tgt := 59) rfl (fun c10 => ?_) (fun c10 => ?_)
        · have hno : ¬ bgC L ze rr ab.toInt be.toInt t0.toInt := fun g => by rcases e9 with h | h; exfalso; omega; exact h.2 g.2.2.2.1
          exact W.vret hx hb hr (fun t ht hW => ⟨rfl, by rw [ht]; exact hh9.l0, by rw [ht]; exact kp0, Bg, by rw [ht]; exact ⟨ag, zg, bn, f26, rag, cag, f27, hbn, hjg⟩, Nat.le_succ _, fun x => ⟨Or.inl, fun h => h.elim id (fun g => absurd g.2 hno)⟩⟩) hh9.2.2.1 (eX12_begin (59, .return_, 1) (List.mem_of_getElem? (i := 34) rfl))
        · have hk2 : tOK (t0.toInt - 1) L := by rcases e9 with h | h; exact h.2; exfalso; omega
          refine lv_aload_n hx hb (eX12_begin (31, .aload_n 0, 1) (List.mem_of_getElem? (i := 18) rfl)) rfl (lv_at hl 0 rfl) ?_
          refine lv_lload_n hx hb (eX12_begin (32, .lload_n 1, 1) (List.mem_of_getElem? (i := 19) rfl)) rfl (lv_at hl 1 rfl) ?_
          refine tz_rowV (As := [.long t0]) (st := []) (b := a) (C := RX12) (Ts := gT) hx hb hml hown h2 (fun _ h => h) (hX12_offsetAtChange l D cA ro sz H0 a t0 L Z R i0 ze rr bz ha hbz hze hrr (by omega) (by omega)) ⟨rfl, rfl⟩ ⟨by decide, by decide⟩ ⟨by decide, by decide⟩ (tb_7 211 rfl rfl) (tb_1 12 rfl rfl) (tb_7 208 rfl rfl) (tb_7 210 rfl rfl) (tb_0 24 rfl rfl) (show yX12_offsetAtChange.cls ≠ "java/lang/invoke/MethodHandle" ∧ yX12_offsetAtChange.cls ≠ "java/lang/invoke/VarHandle" ∧ (parseMethodDescriptor yX12_offsetAtChange.desc).map (fun d => d.parameters.length) = some 1 by decide +kernel) zs_blind (zs_ob hh9 ha (show RTg[11]? = some (0, 11, 0, fsX12) from rfl) (zCX12 hKn.1)) (fun U hU hW => ⟨rfl, by rw [hU]; exact hh9.l0, zKb s U hW.alike hKn, by rw [hU]; exact ⟨jy0, fbz⟩⟩) hh9.2.2.1 hl.1 (Nat.le_of_ble_eq_true rfl) (eX12_begin (33, .invokevirtual 250, 3) (List.mem_of_getElem? (i := 20) rfl)) (fun r11 s11 t11 lo11 g11 f11 l11 => ?_)
          obtain ⟨v11, q11, e11, z11, c11⟩ := f11
          cases q11
          rw [g11] at c11
          have hh11 : zh_ok D cA RTg ro sz H0 t11.heap lo11 := ⟨z11.1, z11.2.1, l11, z11.2.2.2⟩
          have kp11 := kp0.trans (c11.mono (ms' := bgM) (by decide))
          have jy11 := jy0.kept ha c11 (by decide)
          have mf11_a_26 := (c11.1 a 11 26 11 0 fsX12 ha rfl (by decide) (by decide)).trans f26
          have mf11_a_27 := (c11.1 a 11 27 11 0 fsX12 ha rfl (by decide) (by decide)).trans f27
          have mf11_a_28 := (c11.1 a 11 28 11 0 fsX12 ha rfl (by decide) (by decide)).trans fbz
          have mc11_ag := (c11.2 ag 34 0 1 128 _ rag rfl (by decide)).trans cag
          refine W.eq (g2 := F0 m 36 ls [.int v11]) rfl ?_
          refine ff_if_eq hx hb (eX12_begin (36, .ifCond .eq 23, 3) (List.mem_of_getElem? (i := 21) rfl)) (tgt := 59) rfl (fun c12 => ?_) (fun c12 => ?_)
          · have hno : ¬ bgC L ze rr ab.toInt be.toInt t0.toInt := fun g => by rcases e11 with h | h; exfalso; omega; exact h.2 g.2.2.2.2
            exact W.vret hx hb hr (fun t ht hW => ⟨rfl, by rw [ht]; exact hh11.l0, by rw [ht]; exact kp11, Bg, by rw [ht]; exact ⟨ag, zg, bn, mf11_a_26, rag, mc11_ag, mf11_a_27, hbn, hjg⟩, Nat.le_succ _, fun x => ⟨Or.inl, fun h => h.elim id (fun g => absurd g.2 hno)⟩⟩) hh11.2.2.1 (eX12_begin (59, .return_, 1) (List.mem_of_getElem? (i := 34) rfl))
          · have hk3 : isC L ze rr t0.toInt := by rcases e11 with h | h; exact h.2; exfalso; omega
            have hC : bgC L ze rr ab.toInt be.toInt t0.toInt := ⟨by omega, by omega, hk1, hk2, hk3⟩
            refine lv_aload_n hx hb (eX12_begin (39, .aload_n 0, 1) (List.mem_of_getElem? (i := 22) rfl)) rfl (lv_at hl 0 rfl) ?_
            refine tz_get (r := 11) (k := 26) (t := (72, 0, 0)) hx hb hh11 ha rfl rfl (hcl11 53 26 (72, 0, 0) (by decide) rfl).1 mf11_a_26 (eX12_begin (40, .getfield 53, 3) (List.mem_of_getElem? (i := 23) rfl)) ?_
            refine lv_aload_n hx hb (eX12_begin (43, .aload_n 0, 1) (List.mem_of_getElem? (i := 24) rfl)) rfl (lv_at hl 0 rfl) ?_
            refine tz_get (r := 11) (k := 27) (t := (0, 0, 128)) hx hb hh11 ha rfl rfl (hcl11 253 27 (0, 0, 128) (by decide) rfl).1 mf11_a_27 (eX12_begin (44, .getfield 253, 3) (List.mem_of_getElem? (i := 25) rfl)) ?_
            refine lv_lload_n hx hb (eX12_begin (47, .lload_n 1, 1) (List.mem_of_getElem? (i := 26) rfl)) rfl (lv_at hl 1 rfl) ?_
            obtain ⟨-, zz13, hcc13, hyy13⟩ := zh_arr hh11 rag (show RTg[34]? = some (1, 1, 128, [(1, (-100000000000000), 100000000000000)]) from rfl)
            refine tz_last hx hb (zAr hKn.1 1 (by decide)) hh11 rag (show RTg[34]? = some (1, 1, 128, [(1, (-100000000000000), 100000000000000)]) from rfl) mc11_ag (zs_arr (mc11_ag.symm.trans hcc13) hyy13) (by omega) (by omega) (tz_l (by omega) (by omega)) (eX12_begin (48, .lastore, 1) (List.mem_of_getElem? (i := 27) rfl)) (fun H13 lo13 hh13 hc13 hk13 hq13 _ => ?_)
            rw [show bn.toNatClampNeg = Bg.length by show bn.toInt.toNat = _; omega] at hc13
            have mf13_a_26 := (hk13.1 a 11 26 11 0 fsX12 ha rfl (by decide) (by decide)).trans mf11_a_26
            have mf13_a_27 := (hk13.1 a 11 27 11 0 fsX12 ha rfl (by decide) (by decide)).trans mf11_a_27
            have mf13_a_28 := (hk13.1 a 11 28 11 0 fsX12 ha rfl (by decide) (by decide)).trans mf11_a_28
            have kp13 := kp11.trans (hk13.mono (ms' := bgM) (fun x hx => by cases List.mem_singleton.mp hx; decide))
            refine lv_aload_n hx hb (eX12_begin (49, .aload_n 0, 1) (List.mem_of_getElem? (i := 28) rfl)) rfl (lv_at hl 0 rfl) ?_
            refine lv_dup hx hb (eX12_begin (50, .dup, 1) (List.mem_of_getElem? (i := 29) rfl)) rfl ?_
            refine tz_get (r := 11) (k := 27) (t := (0, 0, 128)) hx hb hh13 ha rfl rfl (hcl11 253 27 (0, 0, 128) (by decide) rfl).1 mf13_a_27 (eX12_begin (51, .getfield 253, 3) (List.mem_of_getElem? (i := 30) rfl)) ?_
            refine ff_iconst hx hb (eX12_begin (54, .iconst 1, 1) (List.mem_of_getElem? (i := 31) rfl)) (by decide) (by decide) (fun v14 e14 => ?_)
            refine ff_iadd hx hb (eX12_begin (55, .iadd, 1) (List.mem_of_getElem? (i := 32) rfl)) (by omega) (by omega) (fun v15 e15 => ?_)
            refine tz_put (r := 11) (k := 27) (t := (0, 0, 128)) hx hb hD hh13 ha rfl rfl ((hcl11 253 27 (0, 0, 128) (by decide) rfl).2 (by decide)) (tz_i (by omega) (by omega)) (eX12_begin (56, .putfield 253, 3) (List.mem_of_getElem? (i := 33) rfl)) (fun H16 lo16 hh16 hf16 hk16 _ hq16 => ?_)
            have mf16_a_26 := (hk16.1 a 11 26 11 0 fsX12 ha rfl (by decide) (by decide)).trans mf13_a_26
            have mf16_a_28 := (hk16.1 a 11 28 11 0 fsX12 ha rfl (by decide) (by decide)).trans mf13_a_28
            have mc16_ag := (hk16.2 ag 34 0 1 128 _ rag rfl (by decide)).trans hc13
            have kp16 := kp13.trans (hk16.mono (ms' := bgM) (fun x hx => by cases List.mem_singleton.mp hx; decide))
            exact W.vret hx hb hr (fun t ht hW => ⟨rfl, by rw [ht]; exact hh16.l0, by rw [ht]; exact kp16, Bg ++ [t0.toInt], by rw [ht]; exact ⟨ag, _, _, mf16_a_26, rag, mc16_ag, hf16, by rw [List.length_append]; show _ = ((Bg.length + 1 : Nat) : Int); omega, jN_app hjg⟩, by rw [List.length_append]; exact Nat.le_refl _, fun x => by rw [List.mem_append, List.mem_singleton]; exact ⟨fun h => h.elim Or.inl (fun g => Or.inr ⟨g, hC⟩), fun h => h.elim Or.inl (fun g => Or.inr g.1)⟩⟩) hh16.2.2.1 (eX12_begin (59, .return_, 1) (List.mem_of_getElem? (i := 34) rfl))
