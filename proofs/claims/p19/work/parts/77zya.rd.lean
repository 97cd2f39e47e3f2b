/-! p19: read() of the reference -/
def rdK : List (Nat × Nat) := [(11, 0), (11, 29), (11, 30), (11, 31), (11, 36), (11, 37), (11, 38), (11, 39), (36, 0), (37, 0), (38, 0)]
/-- what the document says of read() -/
def spRd (fo : Int) (T L : List Int) (k r : Int) : Prop := (k = 1 ∧ ¬ (0 ≤ fo ∧ fo ≤ 6)) ∨ (k = 0 ∧ (0 ≤ fo ∧ fo ≤ 6) ∧ r = rdG T L fo (fun _ => 0) (fun _ => 0))
theorem spRd_det {fo : Int} {T L : List Int} {k r k' r' : Int} (h : spRd fo T L k r) (g : spRd fo T L k' r') : k = k' ∧ (k = 0 → r = r') := by
  rcases h with ⟨h1, h2⟩ | ⟨h1, h2, h3⟩ <;> rcases g with ⟨g1, g2⟩ | ⟨g1, g2, g3⟩
  · exact ⟨by omega, by omega⟩
  · exact absurd g2 h2
  · exact absurd h2 g2
  · exact ⟨by omega, fun _ => by rw [h3, g3]⟩
section TYJ
variable {l : Launch} {D : va_G} {cA : Nat → ClassId} {ro : Nat → Option Nat} {sz : Nat} {H0 : Heap} {y : MethodName} {ws : List Cond} {rm : Room} {k : zc_C} {vs : List Value} {J : Heap → Prop} {ms : List (Nat × Nat)}
theorem ty_VJ (h : zy_M l D cA RTg ro sz H0 (zKn D cA ro sz H0) y ws rm k) (hp : ∀ H, J H → zc_pre D RTg ro k H vs) (hm : k.2.2.2.1 = ms) (ha : k.2.2.2.2.2 = [(none, [], [])]) : Met l y ws rm (zs_P D cA ro sz H0 J vs) (ty_QV D cA ro sz H0 ms) 0 0 (zy_fr sz) :=
  mt_post (met_weak h (fun a U hP => ⟨vs, hP.1, hP.2.1, hp _ hP.2.2.2, hP.2.2.1⟩)) (fun a st oc t _ hq => by
    obtain ⟨vs', x, e1, e2, e3, e4, al, e5, e6⟩ := hq
    rw [ha] at e5
    rw [hm] at e4
    cases List.mem_singleton.mp e5
    have e7 := e6.1
    cases x with
    | none => exact ⟨e2, e3, e4⟩
    | some v => exact False.elim e7)
end TYJ
theorem jG_mk {D : va_G} {cA : Nat → ClassId} {ro : Nat → Option Nat} {sz : Nat} {H0 H : Heap} {lo : List Loc} {a : Nat} {nv : Int32} (hh : zh_ok D cA RTg ro sz H0 H lo) (ha : ro a = some 11) (hf : zh_f D H a 11 36 = .int nv) (hn : nv.toInt = 0) : ∃ g h : fN, jG D cA ro H a 0 g h := by
  obtain ⟨ga, f34, rga⟩ := tz_ref (k := 34) (rr := 36) hh ha (show RTg[11]? = some (0, 11, 0, fsX12) from rfl) rfl
  obtain ⟨-, z, hc, hy⟩ := zh_arr hh rga (show RTg[36]? = some (1, 1, 64, [(1, (-9223372036854775808), 9223372036854775807)]) from rfl)
  have e : ∀ i : Nat, i < 64 → ∃ v : Int64, z i = .long v := fun i hi => by
    obtain ⟨v, q, -, -⟩ := hy i hi
    exact ⟨v, q⟩
  refine ⟨fun k => (match z k with | .long v => v.toInt | _ => 0), fun k => (match z (32 + k) with | .long v => v.toInt | _ => 0), ga, z, nv, f34, rga, hc, fun k hk => ?_, hf, hn⟩
  obtain ⟨v, q⟩ := e k (by omega)
  obtain ⟨w, r⟩ := e (32 + k) (by omega)
  refine ⟨⟨v, by rw [show 32 * 0 + k = k by omega]; exact q, ?_⟩, w, by rw [show 32 * (1 - 0) + k = 32 + k by omega]; exact r, ?_⟩
  · simp only [q]
  · simp only [r]
set_option maxRecDepth 100000 in
set_option maxHeartbeats 4000000 in
theorem hX12_read (l : Launch) (D : va_G) (cA : Nat → ClassId) (ro : Nat → Option Nat) (sz : Nat) (H0 : Heap) (a : Nat) (fo : Int32) (T L : List Int) (ha : ro a = some 11) (hL : ∀ d ∈ L, -365961662 ≤ d ∧ d ≤ 364522971) (hT : (T.length : Int) ≤ 120) : Met l yX12_read (gW yX12_read cX12_read 8 (some .long)) { frames := 6, cells := 0, slots := 0, locals := 167 } (zs_P D cA ro sz H0 (fun H => jR D cA ro H a L ∧ jRT D cA ro H a T) [.ref a, .int fo]) (fun _ st oc t => ∃ (r : Int64) (w : Int32), oc = .returned (some (.long r)) ∧ zh_ok D cA RTg ro sz H0 t.heap [] ∧ zc_kept D RTg ro rdK st.heap t.heap ∧ zh_f D t.heap a 11 0 = .int w ∧ spRd fo.toInt T L w.toInt r.toInt) 0 0 (zy_fr sz) := by
  refine zy_ofW (cc := cX12_read) (maxL := 8) (ret := (some .long)) (by decide +kernel) rfl ?_
  intro p e s m args below meth c s1 B hml hv
  obtain ⟨rfl, hh, hKn, hJ⟩ := hv
  have hx := B.exec
  have hb := B.bytes
  have hr := B.returns
  have hlk := B.notSynchronized
  have hts0 := atoms_spec (ws := gW yX12_read cX12_read 8 (some .long)) B.pre
  have h2 : ∀ w ∈ gT, w.before ([.ref a, .int fo] : List Value).toArray s = true := fun w hw => hts0 w (List.mem_cons_of_mem _ hw)
  have hown : s.vm.findClass RX12 = some m.cls := findClass_of_methodNamed B.named
  have hl := lv_entry [.ref a, .int fo] (n := 8) (Nat.le_of_ble_eq_true rfl)
  rw [lg_entry_eq]
  generalize (lg_sl [.ref a, .int fo] ++ List.replicate (8 - (lg_sl [.ref a, .int fo]).length) Slot.unset).toArray = ls at hl ⊢
  have b_fo := zn_i32 fo
  have hD := zD_all h2 hKn.1
  have hcl11 := fun (idx k : Nat) (t : zt_T) (h : (idx, 11, k) ∈ gfX12) (hk : fsX12[k]? = some t) => zf_clause (ro := ro) (ms := rdK) h2 hown hKn.1 gfX12_ok (by decide +kernel) idx 11 k 11 0 fsX12 t h rfl hk
  have kp0 : zc_kept D RTg ro rdK s.heap s.heap := zc_kept.refl
  obtain ⟨jr0, jt0⟩ := hJ
  refine lv_aload_n hx hb (eX12_read (0, .aload_n 0, 1) (List.mem_of_getElem? (i := 0) rfl)) rfl (lv_at hl 0 rfl) ?_
  refine lv_iload_n hx hb (eX12_read (1, .iload_n 1, 1) (List.mem_of_getElem? (i := 1) rfl)) rfl (lv_at hl 1 rfl) ?_
  refine ff_i2l hx hb (eX12_read (2, .i2l, 1) (List.mem_of_getElem? (i := 2) rfl)) (fun v1 e1 => ?_)
  refine ff_lconst hx hb (eX12_read (3, .lconst 0, 1) (List.mem_of_getElem? (i := 3) rfl)) rfl (fun v2 e2 => ?_)
  refine ff_ldc2 (n := 6) hx hb hown h2 (clX12_ok 431 6 (List.mem_of_getElem? (i := 40) rfl)) (eX12_read (4, .ldc2_w 431, 3) (List.mem_of_getElem? (i := 4) rfl)) (fun v3 e3 => ?_)
  refine zu_S (vs := [.long v1, .long v2, .long v3]) (rest := [.ref a]) hx hb hml hown hts0 zu_BT (hX12_isIn l v1 v2 v3) ⟨rfl, rfl⟩ ⟨by decide, by decide⟩ ⟨by decide, by decide⟩ (tb_7 47 rfl rfl) (tb_1 12 rfl rfl) (tb_7 45 rfl rfl) (tb_7 46 rfl rfl) (show yX12_isIn.cls ≠ "java/lang/invoke/MethodHandle" ∧ yX12_isIn.cls ≠ "java/lang/invoke/VarHandle" ∧ (parseMethodDescriptor yX12_isIn.desc).map (fun d => d.parameters.length) = some 3 by decide +kernel) rfl (fun _ _ _ => trivial) hl.1 (Nat.le_of_ble_eq_true rfl) (eX12_read (7, .invokestatic 130, 3) (List.mem_of_getElem? (i := 5) rfl)) (fun w4 f4 => ?_)
  obtain ⟨v4, rfl, e4⟩ := f4
  refine ff_if_eq hx hb (eX12_read (10, .ifCond .eq 7, 3) (List.mem_of_getElem? (i := 6) rfl)) (tgt := 17) rfl (fun c5 => ?_) (fun c5 => ?_)
  · skip
    refine ff_iconst hx hb (eX12_read (17, .iconst 1, 1) (List.mem_of_getElem? (i := 9) rfl)) (by decide) (by decide) (fun v6 e6 => ?_)
    refine tz_put (r := 11) (k := 0) (t := (0, 0, 2)) hx hb hD hh ha rfl rfl ((hcl11 85 0 (0, 0, 2) (by decide) rfl).2 (by decide)) (tz_i (by omega) (by omega)) (eX12_read (18, .putfield 85, 3) (List.mem_of_getElem? (i := 10) rfl)) (fun H7 lo7 hh7 hf7 hk7 _ hq7 => ?_)
    have kp7 := kp0.trans (hk7.mono (ms' := rdK) (fun x hx => by cases List.mem_singleton.mp hx; decide))
    have jt7 := jt0.kept ha hk7 (by decide) (by decide) (by decide)
    have jr7 := jr0.kept ha hk7 (by decide)
    refine lv_aload_n hx hb (eX12_read (21, .aload_n 0, 1) (List.mem_of_getElem? (i := 11) rfl)) rfl (lv_at hl 0 rfl) ?_
    refine tz_get (r := 11) (k := 0) (t := (0, 0, 2)) hx hb hh7 ha rfl rfl (hcl11 85 0 (0, 0, 2) (by decide) rfl).1 hf7 (eX12_read (22, .getfield 85, 3) (List.mem_of_getElem? (i := 12) rfl)) ?_
    refine ff_if_le hx hb (eX12_read (25, .ifCond .le 5, 3) (List.mem_of_getElem? (i := 13) rfl)) (tgt := 30) rfl (fun c8 => (by exfalso; omega)) (fun c8 => ?_)
    refine ff_lconst hx hb (eX12_read (28, .lconst 0, 1) (List.mem_of_getElem? (i := 14) rfl)) rfl (fun v9 e9 => ?_)
    exact W.lret hx hb hr (fun t ht hW => ⟨_, _, rfl, by rw [ht]; exact hh7.l0, by rw [ht]; exact kp7, by rw [ht]; exact hf7, Or.inl ⟨by omega, by omega⟩⟩) hh7.2.2.1 (eX12_read (29, .lreturn, 1) (List.mem_of_getElem? (i := 15) rfl))
  · skip
    refine ff_iconst hx hb (eX12_read (13, .iconst 0, 1) (List.mem_of_getElem? (i := 7) rfl)) (by decide) (by decide) (fun v10 e10 => ?_)
    refine lv_goto hx hb (eX12_read (14, .goto 4, 3) (List.mem_of_getElem? (i := 8) rfl)) (tgt := 18) rfl ?_
    refine tz_put (r := 11) (k := 0) (t := (0, 0, 2)) hx hb hD hh ha rfl rfl ((hcl11 85 0 (0, 0, 2) (by decide) rfl).2 (by decide)) (tz_i (by omega) (by omega)) (eX12_read (18, .putfield 85, 3) (List.mem_of_getElem? (i := 10) rfl)) (fun H11 lo11 hh11 hf11 hk11 _ hq11 => ?_)
    have kp11 := kp0.trans (hk11.mono (ms' := rdK) (fun x hx => by cases List.mem_singleton.mp hx; decide))
    have jt11 := jt0.kept ha hk11 (by decide) (by decide) (by decide)
    have jr11 := jr0.kept ha hk11 (by decide)
    refine lv_aload_n hx hb (eX12_read (21, .aload_n 0, 1) (List.mem_of_getElem? (i := 11) rfl)) rfl (lv_at hl 0 rfl) ?_
    refine tz_get (r := 11) (k := 0) (t := (0, 0, 2)) hx hb hh11 ha rfl rfl (hcl11 85 0 (0, 0, 2) (by decide) rfl).1 hf11 (eX12_read (22, .getfield 85, 3) (List.mem_of_getElem? (i := 12) rfl)) ?_
    refine ff_if_le hx hb (eX12_read (25, .ifCond .le 5, 3) (List.mem_of_getElem? (i := 13) rfl)) (tgt := 30) rfl (fun c12 => ?_) (fun c12 => (by exfalso; omega))
    refine lv_aload_n hx hb (eX12_read (30, .aload_n 0, 1) (List.mem_of_getElem? (i := 16) rfl)) rfl (lv_at hl 0 rfl) ?_
    refine tz_rowV (As := []) (st := []) (b := a) (C := RX12) (Ts := gT) hx hb hml hown h2 (fun _ h => h) (hX12_begin_ l D cA ro sz H0 a T ha) ⟨rfl, rfl⟩ ⟨by decide, by decide⟩ ⟨by decide, by decide⟩ (tb_8 5 rfl rfl) (tb_1 12 rfl rfl) (tb_8 2 rfl rfl) (tb_8 4 rfl rfl) (tb_0 28 rfl rfl) (show yX12_begin_.cls ≠ "java/lang/invoke/MethodHandle" ∧ yX12_begin_.cls ≠ "java/lang/invoke/VarHandle" ∧ (parseMethodDescriptor yX12_begin_.desc).map (fun d => d.parameters.length) = some 0 by decide +kernel) zs_blind (zs_ob hh11 ha (show RTg[11]? = some (0, 11, 0, fsX12) from rfl) (zCX12 hKn.1)) (fun U hU hW => ⟨rfl, by rw [hU]; exact hh11.l0, zKb s U hW.alike hKn, by rw [hU]; exact jt11⟩) hh11.2.2.1 hl.1 (Nat.le_of_ble_eq_true rfl) (eX12_read (31, .invokevirtual 346, 3) (List.mem_of_getElem? (i := 17) rfl)) (fun r13 s13 t13 lo13 g13 f13 l13 => ?_)
    obtain ⟨q13, z13, c13, jq13⟩ := f13
    cases q13
    rw [g13] at c13
    have hh13 : zh_ok D cA RTg ro sz H0 t13.heap lo13 := ⟨z13.1, z13.2.1, l13, z13.2.2.2⟩
    have kp13 := kp11.trans (c13.mono (ms' := rdK) (by decide))
    have jv13 : jV D cA ro t13.heap a T r0S := jq13
    have hvk : vOK T r0S := jv13.2.2
    have uu13 := hvk
    unfold vOK at uu13
    have bb13 := byI_bd T r0S.1
    have g013 := (c13.1 a 11 0 11 0 fsX12 ha rfl (by decide) (by decide)).trans hf11
    have jr13 := jr11.kept ha c13 (by decide)
    refine W.eq (g2 := F0 m 34 ls []) rfl ?_
    refine lv_aload_n hx hb (eX12_read (34, .aload_n 0, 1) (List.mem_of_getElem? (i := 18) rfl)) rfl (lv_at hl 0 rfl) ?_
    refine ff_iconst hx hb (eX12_read (35, .iconst 0, 1) (List.mem_of_getElem? (i := 19) rfl)) (by decide) (by decide) (fun v14 e14 => ?_)
    refine tz_put (r := 11) (k := 36) (t := (0, 0, 3)) hx hb hD hh13 ha rfl rfl ((hcl11 354 36 (0, 0, 3) (by decide) rfl).2 (by decide)) (tz_i (by omega) (by omega)) (eX12_read (36, .putfield 354, 3) (List.mem_of_getElem? (i := 20) rfl)) (fun H15 lo15 hh15 hf15 hk15 _ hq15 => ?_)
    have kp15 := kp13.trans (hk15.mono (ms' := rdK) (fun x hx => by cases List.mem_singleton.mp hx; decide))
    have jv15 := jv13.kept ha hk15 (by decide)
    have g015 := (hk15.1 a 11 0 11 0 fsX12 ha rfl (by decide) (by decide)).trans g013
    have jr15 := jr13.kept ha hk15 (by decide)
    obtain ⟨gz, hz0, jg0⟩ := jG_mk hh15 ha hf15 (by omega)
    have jn357 : ∀ (cv : Int64) (cw : Int32) (ls : Array Slot) (H : Heap) (lo0 : List Loc), zh_ok D cA RTg ro sz H0 H lo0 → zc_kept D RTg ro rdK s.heap H → zh_f D H a 11 0 = .int v10 → (1 ≤ cw.toInt ∧ cw.toInt ≤ 2) → rdG T L fo.toInt gz hz0 = NONEI → lv_has ls 8 [(2, .long cv), (4, .int cw), (0, .ref a)] → W p l e (headSpec (gW yX12_read cX12_read 8 (some .long)) { frames := 6, cells := 0, slots := 0, locals := 167 }).room s m ([.ref a, .int fo] : List Value).toArray below meth c H lo0 0 0 (MQ below (fun _ st oc t => ∃ (r : Int64) (w : Int32), oc = .returned (some (.long r)) ∧ zh_ok D cA RTg ro sz H0 t.heap [] ∧ zc_kept D RTg ro rdK st.heap t.heap ∧ zh_f D t.heap a 11 0 = .int w ∧ spRd fo.toInt T L w.toInt r.toInt) ([.ref a, .int fo] : List Value).toArray s 0 0 (zy_fr sz)) (F0 m 357 ls []) := by
      intro cv cw ls H lo0 hh0 kpl fw hcw hnone hl
      refine lv_aload_n hx hb (eX12_read (357, .aload_n 0, 1) (List.mem_of_getElem? (i := 160) rfl)) rfl (lv_at hl 2 rfl) ?_
      refine ff_iconst hx hb (eX12_read (358, .iconst 0, 1) (List.mem_of_getElem? (i := 161) rfl)) (by decide) (by decide) (fun v16 e16 => ?_)
      refine tz_put (r := 11) (k := 36) (t := (0, 0, 3)) hx hb hD hh0 ha rfl rfl ((hcl11 354 36 (0, 0, 3) (by decide) rfl).2 (by decide)) (tz_i (by omega) (by omega)) (eX12_read (359, .putfield 354, 3) (List.mem_of_getElem? (i := 162) rfl)) (fun H17 lo17 hh17 hf17 hk17 _ hq17 => ?_)
      have kp17 := kpl.trans (hk17.mono (ms' := rdK) (fun x hx => by cases List.mem_singleton.mp hx; decide))
      have g017 := (hk17.1 a 11 0 11 0 fsX12 ha rfl (by decide) (by decide)).trans fw
      have lq : ∀ (m0 i : Nat) (nv : Int32) (ls : Array Slot) (H : Heap) (lo0 : List Loc), i + m0 = 3 → nv.toInt = (i : Int) → zh_f D H a 11 36 = .int nv → zh_ok D cA RTg ro sz H0 H lo0 → zc_kept D RTg ro rdK s.heap H → zh_f D H a 11 0 = .int v10 → lv_has ls 8 [(2, .long cv), (4, .int cw), (0, .ref a)] → W p l e (headSpec (gW yX12_read cX12_read 8 (some .long)) { frames := 6, cells := 0, slots := 0, locals := 167 }).room s m ([.ref a, .int fo] : List Value).toArray below meth c H lo0 0 0 (MQ below (fun _ st oc t => ∃ (r : Int64) (w : Int32), oc = .returned (some (.long r)) ∧ zh_ok D cA RTg ro sz H0 t.heap [] ∧ zc_kept D RTg ro rdK st.heap t.heap ∧ zh_f D t.heap a 11 0 = .int w ∧ spRd fo.toInt T L w.toInt r.toInt) ([.ref a, .int fo] : List Value).toArray s 0 0 (zy_fr sz)) (F0 m 362 ls []) := by
        intro m0
        induction m0 with
        | zero =>
          intro i nv ls H lo0 hi hnv f36 hh0 kpl fw hl
          refine lv_aload_n hx hb (eX12_read (362, .aload_n 0, 1) (List.mem_of_getElem? (i := 163) rfl)) rfl (lv_at hl 2 rfl) ?_
          refine tz_get (r := 11) (k := 36) (t := (0, 0, 3)) hx hb hh0 ha rfl rfl (hcl11 354 36 (0, 0, 3) (by decide) rfl).1 f36 (eX12_read (363, .getfield 354, 3) (List.mem_of_getElem? (i := 164) rfl)) ?_
          refine ff_iconst hx hb (eX12_read (366, .iconst 3, 1) (List.mem_of_getElem? (i := 165) rfl)) (by decide) (by decide) (fun v18 e18 => ?_)
          refine ff_icmp_ge hx hb (eX12_read (367, .if_icmp .ge 57, 3) (List.mem_of_getElem? (i := 166) rfl)) (tgt := 424) rfl (fun c19 => ?_) (fun c19 => (by exfalso; omega))
          refine lv_aload_n hx hb (eX12_read (424, .aload_n 0, 1) (List.mem_of_getElem? (i := 192) rfl)) rfl (lv_at hl 2 rfl) ?_
          obtain ⟨a20, fa20, ra20⟩ := tz_ref (k := 40) (rr := 38) hh0 ha (show RTg[11]? = some (0, 11, 0, fsX12) from rfl) rfl
          refine tz_get (r := 11) (k := 40) (t := (80, 0, 0)) hx hb hh0 ha rfl rfl (hcl11 65 40 (80, 0, 0) (by decide) rfl).1 fa20 (eX12_read (425, .getfield 65, 3) (List.mem_of_getElem? (i := 193) rfl)) ?_
          refine ff_bipush hx hb (eX12_read (428, .bipush 26, 2) (List.mem_of_getElem? (i := 194) rfl)) (by decide) (by decide) (fun v21 e21 => ?_)
          refine lv_lload_n hx hb (eX12_read (430, .lload_n 2, 1) (List.mem_of_getElem? (i := 195) rfl)) rfl (lv_at hl 0 rfl) ?_
          obtain ⟨-, z22, hc22, hy22⟩ := zh_arr hh0 ra20 (show RTg[38]? = some (1, 1, 39, [(1, (-9223372036854775808), 9223372036854775807)]) from rfl)
          refine tz_last hx hb (zAr hKn.1 1 (by decide)) hh0 ra20 (show RTg[38]? = some (1, 1, 39, [(1, (-9223372036854775808), 9223372036854775807)]) from rfl) hc22 hy22 (by omega) (by omega) (tz_l (zn_i64 _).1 (zn_i64 _).2) (eX12_read (431, .lastore, 1) (List.mem_of_getElem? (i := 196) rfl)) (fun H23 lo23 hh23 hc23 hk23 hq23 _ => ?_)
          have mf23_a_36 := (hk23.1 a 11 36 11 0 fsX12 ha rfl (by decide) (by decide)).trans f36
          have mf23_a_40 := (hk23.1 a 11 40 11 0 fsX12 ha rfl (by decide) (by decide)).trans fa20
          have kp23 := kpl.trans (hk23.mono (ms' := rdK) (fun x hx => by cases List.mem_singleton.mp hx; decide))
          have g023 := (hk23.1 a 11 0 11 0 fsX12 ha rfl (by decide) (by decide)).trans fw
          refine ff_ldc2 (n := (-9223372036854775808)) hx hb hown h2 (clX12_ok 83 (-9223372036854775808) (List.mem_of_getElem? (i := 2) rfl)) (eX12_read (432, .ldc2_w 83, 3) (List.mem_of_getElem? (i := 197) rfl)) (fun v24 e24 => ?_)
          have hvd : v24.toInt = rdG T L fo.toInt gz hz0 := by rw [hnone]; unfold NONEI; omega
          exact W.lret hx hb hr (fun t ht hW => ⟨_, _, rfl, by rw [ht]; exact hh23.l0, by rw [ht]; exact kp23, by rw [ht]; exact g023, Or.inr ⟨by omega, by omega, hvd.trans (rdG_any hL hT)⟩⟩) hh23.2.2.1 (eX12_read (435, .lreturn, 1) (List.mem_of_getElem? (i := 198) rfl))
        | succ m0 ih =>
          intro i nv ls H lo0 hi hnv f36 hh0 kpl fw hl
          refine lv_aload_n hx hb (eX12_read (362, .aload_n 0, 1) (List.mem_of_getElem? (i := 163) rfl)) rfl (lv_at hl 2 rfl) ?_
          refine tz_get (r := 11) (k := 36) (t := (0, 0, 3)) hx hb hh0 ha rfl rfl (hcl11 354 36 (0, 0, 3) (by decide) rfl).1 f36 (eX12_read (363, .getfield 354, 3) (List.mem_of_getElem? (i := 164) rfl)) ?_
          refine ff_iconst hx hb (eX12_read (366, .iconst 3, 1) (List.mem_of_getElem? (i := 165) rfl)) (by decide) (by decide) (fun v25 e25 => ?_)
          refine ff_icmp_ge hx hb (eX12_read (367, .if_icmp .ge 57, 3) (List.mem_of_getElem? (i := 166) rfl)) (tgt := 424) rfl (fun c26 => (by exfalso; omega)) (fun c26 => ?_)
          refine lv_aload_n hx hb (eX12_read (370, .aload_n 0, 1) (List.mem_of_getElem? (i := 167) rfl)) rfl (lv_at hl 2 rfl) ?_
          refine tz_get (r := 11) (k := 36) (t := (0, 0, 3)) hx hb hh0 ha rfl rfl (hcl11 354 36 (0, 0, 3) (by decide) rfl).1 f36 (eX12_read (371, .getfield 354, 3) (List.mem_of_getElem? (i := 168) rfl)) ?_
          refine lv_iload hx hb (eX12_read (374, .iload 4, 2) (List.mem_of_getElem? (i := 169) rfl)) (lv_at hl 1 rfl) ?_
          refine ff_icmp_ge hx hb (eX12_read (376, .if_icmp .ge 10, 3) (List.mem_of_getElem? (i := 170) rfl)) (tgt := 386) rfl (fun c27 => ?_) (fun c27 => ?_)
          · skip
            refine ff_iconst hx hb (eX12_read (386, .iconst 0, 1) (List.mem_of_getElem? (i := 174) rfl)) (by decide) (by decide) (fun v28 e28 => ?_)
            refine lv_istore hx hb (eX12_read (387, .istore 5, 2) (List.mem_of_getElem? (i := 175) rfl)) hl (by decide) rfl (fun ls29 hl29 => ?_)
            have lr : ∀ (m2 j : Nat) (jv : Int32) (ls : Array Slot) (H : Heap) (lo0 : List Loc), j + m2 = 13 → jv.toInt = (j : Int) → zh_f D H a 11 36 = .int nv → zh_ok D cA RTg ro sz H0 H lo0 → zc_kept D RTg ro rdK s.heap H → zh_f D H a 11 0 = .int v10 → lv_has ls 8 [(5, .int jv), (2, .long cv), (4, .int cw), (0, .ref a)] → W p l e (headSpec (gW yX12_read cX12_read 8 (some .long)) { frames := 6, cells := 0, slots := 0, locals := 167 }).room s m ([.ref a, .int fo] : List Value).toArray below meth c H lo0 0 0 (MQ below (fun _ st oc t => ∃ (r : Int64) (w : Int32), oc = .returned (some (.long r)) ∧ zh_ok D cA RTg ro sz H0 t.heap [] ∧ zc_kept D RTg ro rdK st.heap t.heap ∧ zh_f D t.heap a 11 0 = .int w ∧ spRd fo.toInt T L w.toInt r.toInt) ([.ref a, .int fo] : List Value).toArray s 0 0 (zy_fr sz)) (F0 m 389 ls []) := by
              intro m2
              induction m2 with
              | zero =>
                intro j jv ls H lo0 hj hjv f36 hh0 kpl fw hl
                refine lv_iload hx hb (eX12_read (389, .iload 5, 2) (List.mem_of_getElem? (i := 176) rfl)) (lv_at hl 0 rfl) ?_
                refine ff_bipush hx hb (eX12_read (391, .bipush 13, 2) (List.mem_of_getElem? (i := 177) rfl)) (by decide) (by decide) (fun v30 e30 => ?_)
                refine ff_icmp_ge hx hb (eX12_read (393, .if_icmp .ge 18, 3) (List.mem_of_getElem? (i := 178) rfl)) (tgt := 411) rfl (fun c31 => ?_) (fun c31 => (by exfalso; omega))
                refine lv_aload_n hx hb (eX12_read (411, .aload_n 0, 1) (List.mem_of_getElem? (i := 185) rfl)) rfl (lv_at hl 3 rfl) ?_
                refine lv_dup hx hb (eX12_read (412, .dup, 1) (List.mem_of_getElem? (i := 186) rfl)) rfl ?_
                refine tz_get (r := 11) (k := 36) (t := (0, 0, 3)) hx hb hh0 ha rfl rfl (hcl11 354 36 (0, 0, 3) (by decide) rfl).1 f36 (eX12_read (413, .getfield 354, 3) (List.mem_of_getElem? (i := 187) rfl)) ?_
                refine ff_iconst hx hb (eX12_read (416, .iconst 1, 1) (List.mem_of_getElem? (i := 188) rfl)) (by decide) (by decide) (fun v32 e32 => ?_)
                refine ff_iadd hx hb (eX12_read (417, .iadd, 1) (List.mem_of_getElem? (i := 189) rfl)) (by omega) (by omega) (fun v33 e33 => ?_)
                refine tz_put (r := 11) (k := 36) (t := (0, 0, 3)) hx hb hD hh0 ha rfl rfl ((hcl11 354 36 (0, 0, 3) (by decide) rfl).2 (by decide)) (tz_i (by omega) (by omega)) (eX12_read (418, .putfield 354, 3) (List.mem_of_getElem? (i := 190) rfl)) (fun H34 lo34 hh34 hf34 hk34 _ hq34 => ?_)
                have kp34 := kpl.trans (hk34.mono (ms' := rdK) (fun x hx => by cases List.mem_singleton.mp hx; decide))
                have g034 := (hk34.1 a 11 0 11 0 fsX12 ha rfl (by decide) (by decide)).trans fw
                refine lv_goto hx hb (eX12_read (421, .goto (-59), 3) (List.mem_of_getElem? (i := 191) rfl)) (tgt := 362) rfl ?_
                exact ih (i + 1) v33 ls _ _ (by omega) (by omega) hf34 hh34 kp34 g034 (lv_sub hl [1, 2, 3] rfl)
              | succ m2 ih2 =>
                intro j jv ls H lo0 hj hjv f36 hh0 kpl fw hl
                refine lv_iload hx hb (eX12_read (389, .iload 5, 2) (List.mem_of_getElem? (i := 176) rfl)) (lv_at hl 0 rfl) ?_
                refine ff_bipush hx hb (eX12_read (391, .bipush 13, 2) (List.mem_of_getElem? (i := 177) rfl)) (by decide) (by decide) (fun v35 e35 => ?_)
                refine ff_icmp_ge hx hb (eX12_read (393, .if_icmp .ge 18, 3) (List.mem_of_getElem? (i := 178) rfl)) (tgt := 411) rfl (fun c36 => (by exfalso; omega)) (fun c36 => ?_)
                refine lv_aload_n hx hb (eX12_read (396, .aload_n 0, 1) (List.mem_of_getElem? (i := 179) rfl)) rfl (lv_at hl 3 rfl) ?_
                refine lv_iload hx hb (eX12_read (397, .iload 5, 2) (List.mem_of_getElem? (i := 180) rfl)) (lv_at hl 0 rfl) ?_
                refine ff_ldc2 (n := (-9223372036854775808)) hx hb hown h2 (clX12_ok 83 (-9223372036854775808) (List.mem_of_getElem? (i := 2) rfl)) (eX12_read (399, .ldc2_w 83, 3) (List.mem_of_getElem? (i := 181) rfl)) (fun v37 e37 => ?_)
                refine tz_rowV (As := [.int jv, .long v37]) (st := []) (b := a) (C := RX12) (Ts := gT) hx hb hml hown h2 (fun _ h => h) (ty_VJ (J := fun H => zh_f D H a 11 36 = .int nv) (vs := [.ref a, .int jv, .long v37]) (ms := [(38, 0)]) (mX12_field0 l D cA ro sz H0) (fun H hj => ⟨⟨Or.inr ⟨a, rfl, ha⟩, ⟨jv, rfl, by show (0 : Int) ≤ jv.toInt; omega, by show jv.toInt ≤ 12; omega⟩, ty_l v37, trivial⟩, fun e9 he9 => by cases List.mem_singleton.mp he9; show zt_ok ro (zh_f D H a 11 36) (0, 0, 2); rw [hj]; exact ⟨nv, rfl, by show (0 : Int) ≤ nv.toInt; omega, by show nv.toInt ≤ 2; omega⟩, fun f9 hf9 => by cases hf9⟩) rfl rfl) ⟨rfl, rfl⟩ ⟨by decide, by decide⟩ ⟨by decide, by decide⟩ (tb_8 137 rfl rfl) (tb_1 12 rfl rfl) (tb_8 134 rfl rfl) (tb_8 136 rfl rfl) (tb_0 56 rfl rfl) (show yX12_field0.cls ≠ "java/lang/invoke/MethodHandle" ∧ yX12_field0.cls ≠ "java/lang/invoke/VarHandle" ∧ (parseMethodDescriptor yX12_field0.desc).map (fun d => d.parameters.length) = some 2 by decide +kernel) zs_blind (zs_ob hh0 ha (show RTg[11]? = some (0, 11, 0, fsX12) from rfl) (zCX12 hKn.1)) (fun U hU hW => ⟨rfl, by rw [hU]; exact hh0.l0, zKb s U hW.alike hKn, by rw [hU]; exact f36⟩) hh0.2.2.1 hl.1 (Nat.le_of_ble_eq_true rfl) (eX12_read (402, .invokevirtual 421, 3) (List.mem_of_getElem? (i := 182) rfl)) (fun r38 s38 t38 lo38 g38 f38 l38 => ?_)
                obtain ⟨q38, z38, c38⟩ := f38
                cases q38
                rw [g38] at c38
                have hh38 : zh_ok D cA RTg ro sz H0 t38.heap lo38 := ⟨z38.1, z38.2.1, l38, z38.2.2.2⟩
                have kp38 := kpl.trans (c38.mono (ms' := rdK) (by decide))
                have h3638 := (c38.1 a 11 36 11 0 fsX12 ha rfl (by decide) (by decide)).trans f36
                have g038 := (c38.1 a 11 0 11 0 fsX12 ha rfl (by decide) (by decide)).trans fw
                refine W.eq (g2 := F0 m 405 ls []) rfl ?_
                refine ff_iinc (k := 0) hx hb (eX12_read (405, .iinc 5 1, 3) (List.mem_of_getElem? (i := 183) rfl)) hl rfl (by decide) (by decide) (by decide) (by omega) (by omega) (fun v39 e39 ls39 hl39 => ?_)
                refine lv_goto hx hb (eX12_read (408, .goto (-19), 3) (List.mem_of_getElem? (i := 184) rfl)) (tgt := 389) rfl ?_
                exact ih2 (j + 1) v39 ls39 _ _ (by omega) (by omega) h3638 hh38 kp38 g038 (lv_sub hl39 [0, 1, 2, 3] rfl)
            exact lr 13 0 v28 ls29 _ _ (by omega) (by omega) f36 hh0 kpl fw (lv_sub hl29 [0, 1, 2, 3] rfl)
          · skip
            refine lv_aload_n hx hb (eX12_read (379, .aload_n 0, 1) (List.mem_of_getElem? (i := 171) rfl)) rfl (lv_at hl 2 rfl) ?_
            refine tz_rowV (As := []) (st := []) (b := a) (C := RX12) (Ts := gT) hx hb hml hown h2 (fun _ h => h) (ty_VJ (J := fun H => zh_f D H a 11 36 = .int nv) (vs := [.ref a]) (ms := [(11, 31), (11, 38), (11, 39), (38, 0)]) (mX12_fillPart l D cA ro sz H0) (fun H hj => ⟨⟨Or.inr ⟨a, rfl, ha⟩, trivial⟩, fun e9 he9 => by cases List.mem_singleton.mp he9; show zt_ok ro (zh_f D H a 11 36) (0, 0, 1); rw [hj]; exact ⟨nv, rfl, by show (0 : Int) ≤ nv.toInt; omega, by show nv.toInt ≤ 1; omega⟩, fun f9 hf9 => by cases hf9⟩) rfl rfl) ⟨rfl, rfl⟩ ⟨by decide, by decide⟩ ⟨by decide, by decide⟩ (tb_8 133 rfl rfl) (tb_1 12 rfl rfl) (tb_8 130 rfl rfl) (tb_8 132 rfl rfl) (tb_0 55 rfl rfl) (show yX12_fillPart.cls ≠ "java/lang/invoke/MethodHandle" ∧ yX12_fillPart.cls ≠ "java/lang/invoke/VarHandle" ∧ (parseMethodDescriptor yX12_fillPart.desc).map (fun d => d.parameters.length) = some 0 by decide +kernel) zs_blind (zs_ob hh0 ha (show RTg[11]? = some (0, 11, 0, fsX12) from rfl) (zCX12 hKn.1)) (fun U hU hW => ⟨rfl, by rw [hU]; exact hh0.l0, zKb s U hW.alike hKn, by rw [hU]; exact f36⟩) hh0.2.2.1 hl.1 (Nat.le_of_ble_eq_true rfl) (eX12_read (380, .invokevirtual 442, 3) (List.mem_of_getElem? (i := 172) rfl)) (fun r40 s40 t40 lo40 g40 f40 l40 => ?_)
            obtain ⟨q40, z40, c40⟩ := f40
            cases q40
            rw [g40] at c40
            have hh40 : zh_ok D cA RTg ro sz H0 t40.heap lo40 := ⟨z40.1, z40.2.1, l40, z40.2.2.2⟩
            have kp40 := kpl.trans (c40.mono (ms' := rdK) (by decide))
            have h3640 := (c40.1 a 11 36 11 0 fsX12 ha rfl (by decide) (by decide)).trans f36
            have g040 := (c40.1 a 11 0 11 0 fsX12 ha rfl (by decide) (by decide)).trans fw
            refine W.eq (g2 := F0 m 383 ls []) rfl ?_
            refine lv_goto hx hb (eX12_read (383, .goto 28, 3) (List.mem_of_getElem? (i := 173) rfl)) (tgt := 411) rfl ?_
            refine lv_aload_n hx hb (eX12_read (411, .aload_n 0, 1) (List.mem_of_getElem? (i := 185) rfl)) rfl (lv_at hl 2 rfl) ?_
            refine lv_dup hx hb (eX12_read (412, .dup, 1) (List.mem_of_getElem? (i := 186) rfl)) rfl ?_
            refine tz_get (r := 11) (k := 36) (t := (0, 0, 3)) hx hb hh40 ha rfl rfl (hcl11 354 36 (0, 0, 3) (by decide) rfl).1 h3640 (eX12_read (413, .getfield 354, 3) (List.mem_of_getElem? (i := 187) rfl)) ?_
            refine ff_iconst hx hb (eX12_read (416, .iconst 1, 1) (List.mem_of_getElem? (i := 188) rfl)) (by decide) (by decide) (fun v41 e41 => ?_)
            refine ff_iadd hx hb (eX12_read (417, .iadd, 1) (List.mem_of_getElem? (i := 189) rfl)) (by omega) (by omega) (fun v42 e42 => ?_)
            refine tz_put (r := 11) (k := 36) (t := (0, 0, 3)) hx hb hD hh40 ha rfl rfl ((hcl11 354 36 (0, 0, 3) (by decide) rfl).2 (by decide)) (tz_i (by omega) (by omega)) (eX12_read (418, .putfield 354, 3) (List.mem_of_getElem? (i := 190) rfl)) (fun H43 lo43 hh43 hf43 hk43 _ hq43 => ?_)
            have kp43 := kp40.trans (hk43.mono (ms' := rdK) (fun x hx => by cases List.mem_singleton.mp hx; decide))
            have g043 := (hk43.1 a 11 0 11 0 fsX12 ha rfl (by decide) (by decide)).trans g040
            refine lv_goto hx hb (eX12_read (421, .goto (-59), 3) (List.mem_of_getElem? (i := 191) rfl)) (tgt := 362) rfl ?_
            exact ih (i + 1) v42 ls _ _ (by omega) (by omega) hf43 hh43 kp43 g043 (lv_sub hl [0, 1, 2] rfl)
      exact lq 3 0 v16 ls _ _ (by omega) (by omega) hf17 hh17 kp17 g017 (lv_sub hl [0, 1, 2] rfl)
    have jn247a : ∀ (g0 h0 : fN) (gj : uS) (cv : Int64) (ls : Array Slot) (H : Heap) (lo0 : List Loc), zh_ok D cA RTg ro sz H0 H lo0 → zc_kept D RTg ro rdK s.heap H → jV D cA ro H a T gj → jG D cA ro H a 0 g0 h0 → jR D cA ro H a L → zh_f D H a 11 0 = .int v10 → fo.toInt < 5 → v1G T L (g0, gj) = rdG T L fo.toInt gz hz0 → (gj.2.1 < 0 → gQ g0) → lv_has ls 8 [(2, .long cv), (0, .ref a), (1, .int fo)] → W p l e (headSpec (gW yX12_read cX12_read 8 (some .long)) { frames := 6, cells := 0, slots := 0, locals := 167 }).room s m ([.ref a, .int fo] : List Value).toArray below meth c H lo0 0 0 (MQ below (fun _ st oc t => ∃ (r : Int64) (w : Int32), oc = .returned (some (.long r)) ∧ zh_ok D cA RTg ro sz H0 t.heap [] ∧ zc_kept D RTg ro rdK st.heap t.heap ∧ zh_f D t.heap a 11 0 = .int w ∧ spRd fo.toInt T L w.toInt r.toInt) ([.ref a, .int fo] : List Value).toArray s 0 0 (zy_fr sz)) (F0 m 247 ls []) := by
      intro g0 h0 gj cv ls H lo0 hh0 kpl jl jgl jrl fw hfo htot hgq hl
      have hul := jl.2.2
      unfold vOK at hul
      refine lv_aload_n hx hb (eX12_read (247, .aload_n 0, 1) (List.mem_of_getElem? (i := 104) rfl)) rfl (lv_at hl 1 rfl) ?_
      refine tz_rowV (As := []) (st := []) (b := a) (C := RX12) (Ts := gT) hx hb hml hown h2 (fun _ h => h) (hX12_isGood l D cA ro sz H0 a T (gj) ha) ⟨rfl, rfl⟩ ⟨by decide, by decide⟩ ⟨by decide, by decide⟩ (tb_8 17 rfl rfl) (tb_1 12 rfl rfl) (tb_8 14 rfl rfl) (tb_8 16 rfl rfl) (tb_0 31 rfl rfl) (show yX12_isGood.cls ≠ "java/lang/invoke/MethodHandle" ∧ yX12_isGood.cls ≠ "java/lang/invoke/VarHandle" ∧ (parseMethodDescriptor yX12_isGood.desc).map (fun d => d.parameters.length) = some 0 by decide +kernel) zs_blind (zs_ob hh0 ha (show RTg[11]? = some (0, 11, 0, fsX12) from rfl) (zCX12 hKn.1)) (fun U hU hW => ⟨rfl, by rw [hU]; exact hh0.l0, zKb s U hW.alike hKn, by rw [hU]; exact jl⟩) hh0.2.2.1 hl.1 (Nat.le_of_ble_eq_true rfl) (eX12_read (248, .invokevirtual 305, 3) (List.mem_of_getElem? (i := 105) rfl)) (fun r44 s44 t44 lo44 g44 f44 l44 => ?_)
      obtain ⟨z44, v44, q44, e44⟩ := f44
      cases q44
      rw [z44, g44]
      have hh44 : zh_ok D cA RTg ro sz H0 H lo44 := ⟨hh0.1, hh0.2.1, l44, hh0.2.2.2⟩
      refine W.eq (g2 := F0 m 251 ls [.int v44]) rfl ?_
      refine ff_if_eq hx hb (eX12_read (251, .ifCond .eq 18, 3) (List.mem_of_getElem? (i := 106) rfl)) (tgt := 269) rfl (fun c45 => ?_) (fun c45 => ?_)
      · skip
        have hend : endG T gj = gj := by unfold endG; rw [if_neg (by omega)]
        refine lv_aload_n hx hb (eX12_read (269, .aload_n 0, 1) (List.mem_of_getElem? (i := 114) rfl)) rfl (lv_at hl 1 rfl) ?_
        obtain ⟨jt46, ⟨av46, fv46, bv46, f2946, f3046, f3146, hav46, hfv46, hbv46⟩, hu46⟩ := id jl
        refine tz_get (r := 11) (k := 30) (t := (0, (-1), 120)) hx hb hh44 ha rfl rfl (hcl11 296 30 (0, (-1), 120) (by decide) rfl).1 f3046 (eX12_read (270, .getfield 296, 3) (List.mem_of_getElem? (i := 115) rfl)) ?_
        refine ff_if_lt hx hb (eX12_read (273, .ifCond .lt 9, 3) (List.mem_of_getElem? (i := 116) rfl)) (tgt := 282) rfl (fun c47 => (by exfalso; omega)) (fun c47 => ?_)
        refine lv_aload_n hx hb (eX12_read (276, .aload_n 0, 1) (List.mem_of_getElem? (i := 117) rfl)) rfl (lv_at hl 1 rfl) ?_
        refine tz_get (r := 11) (k := 30) (t := (0, (-1), 120)) hx hb hh44 ha rfl rfl (hcl11 296 30 (0, (-1), 120) (by decide) rfl).1 f3046 (eX12_read (277, .getfield 296, 3) (List.mem_of_getElem? (i := 118) rfl)) ?_
        refine ff_i2l hx hb (eX12_read (280, .i2l, 1) (List.mem_of_getElem? (i := 119) rfl)) (fun v48 e48 => ?_)
        have hvd : v48.toInt = rdG T L fo.toInt gz hz0 := by rw [← htot]; unfold v1G; dsimp only; rw [hend]; unfold vfG; rw [if_pos (by omega)]; omega
        exact W.lret hx hb hr (fun t ht hW => ⟨_, _, rfl, by rw [ht]; exact hh44.l0, by rw [ht]; exact kpl, by rw [ht]; exact fw, Or.inr ⟨by omega, by omega, hvd.trans (rdG_any hL hT)⟩⟩) hh44.2.2.1 (eX12_read (281, .lreturn, 1) (List.mem_of_getElem? (i := 120) rfl))
      · skip
        refine lv_aload_n hx hb (eX12_read (254, .aload_n 0, 1) (List.mem_of_getElem? (i := 107) rfl)) rfl (lv_at hl 1 rfl) ?_
        obtain ⟨jt49, ⟨av49, fv49, bv49, f2949, f3049, f3149, hav49, hfv49, hbv49⟩, hu49⟩ := id jl
        refine tz_get (r := 11) (k := 29) (t := (0, 0, 120)) hx hb hh44 ha rfl rfl (hcl11 293 29 (0, 0, 120) (by decide) rfl).1 f2949 (eX12_read (255, .getfield 293, 3) (List.mem_of_getElem? (i := 108) rfl)) ?_
        refine lv_aload_n hx hb (eX12_read (258, .aload_n 0, 1) (List.mem_of_getElem? (i := 109) rfl)) rfl (lv_at hl 1 rfl) ?_
        obtain ⟨tb50, n50, z50, f1250, r050, f1350, hn50, hc50, hz50⟩ := id jl.1
        refine tz_get (r := 11) (k := 13) (t := (0, 0, 120)) hx hb hh44 ha rfl rfl (hcl11 302 13 (0, 0, 120) (by decide) rfl).1 f1350 (eX12_read (259, .getfield 302, 3) (List.mem_of_getElem? (i := 110) rfl)) ?_
        refine ff_icmp_ge hx hb (eX12_read (262, .if_icmp .ge 7, 3) (List.mem_of_getElem? (i := 111) rfl)) (tgt := 269) rfl (fun c51 => ?_) (fun c51 => ?_)
        · skip
          have hend : endG T gj = gj := by unfold endG; rw [if_neg (by omega)]
          refine lv_aload_n hx hb (eX12_read (269, .aload_n 0, 1) (List.mem_of_getElem? (i := 114) rfl)) rfl (lv_at hl 1 rfl) ?_
          refine tz_get (r := 11) (k := 30) (t := (0, (-1), 120)) hx hb hh44 ha rfl rfl (hcl11 296 30 (0, (-1), 120) (by decide) rfl).1 f3049 (eX12_read (270, .getfield 296, 3) (List.mem_of_getElem? (i := 115) rfl)) ?_
          refine ff_if_lt hx hb (eX12_read (273, .ifCond .lt 9, 3) (List.mem_of_getElem? (i := 116) rfl)) (tgt := 282) rfl (fun c52 => ?_) (fun c52 => (by exfalso; omega))
          refine lv_iload_n hx hb (eX12_read (282, .iload_n 1, 1) (List.mem_of_getElem? (i := 121) rfl)) rfl (lv_at hl 2 rfl) ?_
          refine ff_iconst hx hb (eX12_read (283, .iconst 5, 1) (List.mem_of_getElem? (i := 122) rfl)) (by decide) (by decide) (fun v53 e53 => ?_)
          refine ff_icmp_lt hx hb (eX12_read (284, .if_icmp .lt 7, 3) (List.mem_of_getElem? (i := 123) rfl)) (tgt := 291) rfl (fun c54 => ?_) (fun c54 => (by exfalso; omega))
          refine ff_iconst hx hb (eX12_read (291, .iconst 1, 1) (List.mem_of_getElem? (i := 126) rfl)) (by decide) (by decide) (fun v55 e55 => ?_)
          refine lv_istore hx hb (eX12_read (292, .istore 4, 2) (List.mem_of_getElem? (i := 127) rfl)) hl (by decide) rfl (fun ls56 hl56 => ?_)
          have hgb := hgq (by omega)
          refine lv_aload_n hx hb (eX12_read (294, .aload_n 0, 1) (List.mem_of_getElem? (i := 128) rfl)) rfl (lv_at hl56 2 rfl) ?_
          refine ff_iconst hx hb (eX12_read (295, .iconst 0, 1) (List.mem_of_getElem? (i := 129) rfl)) (by decide) (by decide) (fun v57 e57 => ?_)
          refine tz_put (r := 11) (k := 36) (t := (0, 0, 3)) hx hb hD hh44 ha rfl rfl ((hcl11 354 36 (0, 0, 3) (by decide) rfl).2 (by decide)) (tz_i (by omega) (by omega)) (eX12_read (296, .putfield 354, 3) (List.mem_of_getElem? (i := 130) rfl)) (fun H58 lo58 hh58 hf58 hk58 _ hq58 => ?_)
          have kp58 := kpl.trans (hk58.mono (ms' := rdK) (fun x hx => by cases List.mem_singleton.mp hx; decide))
          have jv58 := jl.kept ha hk58 (by decide)
          have jg58 := jG.now00 ha hk58 hf58 (by omega) jgl
          have g058 := (hk58.1 a 11 0 11 0 fsX12 ha rfl (by decide) (by decide)).trans fw
          have jr58 := jrl.kept ha hk58 (by decide)
          refine lv_aload_n hx hb (eX12_read (299, .aload_n 0, 1) (List.mem_of_getElem? (i := 131) rfl)) rfl (lv_at hl56 2 rfl) ?_
          refine tz_get (r := 11) (k := 36) (t := (0, 0, 3)) hx hb hh58 ha rfl rfl (hcl11 354 36 (0, 0, 3) (by decide) rfl).1 hf58 (eX12_read (300, .getfield 354, 3) (List.mem_of_getElem? (i := 132) rfl)) ?_
          refine lv_iload hx hb (eX12_read (303, .iload 4, 2) (List.mem_of_getElem? (i := 133) rfl)) (lv_at hl56 0 rfl) ?_
          refine ff_icmp_ge hx hb (eX12_read (305, .if_icmp .ge 36, 3) (List.mem_of_getElem? (i := 134) rfl)) (tgt := 341) rfl (fun c59 => (by exfalso; omega)) (fun c59 => ?_)
          refine lv_aload_n hx hb (eX12_read (308, .aload_n 0, 1) (List.mem_of_getElem? (i := 135) rfl)) rfl (lv_at hl56 2 rfl) ?_
          refine ff_iconst hx hb (eX12_read (309, .iconst 0, 1) (List.mem_of_getElem? (i := 136) rfl)) (by decide) (by decide) (fun v60 e60 => ?_)
          refine tz_rowV (As := [.int v60]) (st := []) (b := a) (C := RX12) (Ts := gT) hx hb hml hown h2 (fun _ h => h) (hX12_get l D cA ro sz H0 a v60 0 0 g0 h0 ha (by decide) (by omega) (by decide)) ⟨rfl, rfl⟩ ⟨by decide, by decide⟩ ⟨by decide, by decide⟩ (tb_8 94 rfl rfl) (tb_1 12 rfl rfl) (tb_8 91 rfl rfl) (tb_8 93 rfl rfl) (tb_0 47 rfl rfl) (show yX12_get.cls ≠ "java/lang/invoke/MethodHandle" ∧ yX12_get.cls ≠ "java/lang/invoke/VarHandle" ∧ (parseMethodDescriptor yX12_get.desc).map (fun d => d.parameters.length) = some 1 by decide +kernel) zs_blind (zs_ob hh58 ha (show RTg[11]? = some (0, 11, 0, fsX12) from rfl) (zCX12 hKn.1)) (fun U hU hW => ⟨rfl, by rw [hU]; exact hh58.l0, zKb s U hW.alike hKn, by rw [hU]; exact jg58⟩) hh58.2.2.1 hl56.1 (Nat.le_of_ble_eq_true rfl) (eX12_read (310, .invokevirtual 361, 3) (List.mem_of_getElem? (i := 137) rfl)) (fun r61 s61 t61 lo61 g61 f61 l61 => ?_)
          obtain ⟨z61, v61, q61, e61⟩ := f61
          cases q61
          rw [z61, g61]
          have hh61 : zh_ok D cA RTg ro sz H0 H58 lo61 := ⟨hh58.1, hh58.2.1, l61, hh58.2.2.2⟩
          refine W.eq (g2 := F0 m 313 ls56 [.long v61]) rfl ?_
          refine ff_ldc2 (n := 4) hx hb hown h2 (clX12_ok 89 4 (List.mem_of_getElem? (i := 3) rfl)) (eX12_read (313, .ldc2_w 89, 3) (List.mem_of_getElem? (i := 138) rfl)) (fun v62 e62 => ?_)
          refine ff_lcmp hx hb (eX12_read (316, .lcmp, 1) (List.mem_of_getElem? (i := 139) rfl)) (fun v63 e63 => ?_)
          refine ff_if_eq hx hb (eX12_read (317, .ifCond .eq 11, 3) (List.mem_of_getElem? (i := 140) rfl)) (tgt := 328) rfl (fun c64 => ?_) (fun c64 => ?_)
          · skip
            have hlk0 : lkB L g0 gj.2.2 = gj.2.2 := by unfold lkB; rw [if_pos (by omega)]
            refine lv_aload_n hx hb (eX12_read (328, .aload_n 0, 1) (List.mem_of_getElem? (i := 145) rfl)) rfl (lv_at hl56 2 rfl) ?_
            refine lv_dup hx hb (eX12_read (329, .dup, 1) (List.mem_of_getElem? (i := 146) rfl)) rfl ?_
            refine tz_get (r := 11) (k := 36) (t := (0, 0, 3)) hx hb hh61 ha rfl rfl (hcl11 354 36 (0, 0, 3) (by decide) rfl).1 hf58 (eX12_read (330, .getfield 354, 3) (List.mem_of_getElem? (i := 147) rfl)) ?_
            refine ff_iconst hx hb (eX12_read (333, .iconst 1, 1) (List.mem_of_getElem? (i := 148) rfl)) (by decide) (by decide) (fun v65 e65 => ?_)
            refine ff_iadd hx hb (eX12_read (334, .iadd, 1) (List.mem_of_getElem? (i := 149) rfl)) (by omega) (by omega) (fun v66 e66 => ?_)
            refine tz_put (r := 11) (k := 36) (t := (0, 0, 3)) hx hb hD hh61 ha rfl rfl ((hcl11 354 36 (0, 0, 3) (by decide) rfl).2 (by decide)) (tz_i (by omega) (by omega)) (eX12_read (335, .putfield 354, 3) (List.mem_of_getElem? (i := 150) rfl)) (fun H67 lo67 hh67 hf67 hk67 _ hq67 => ?_)
            have kp67 := kp58.trans (hk67.mono (ms' := rdK) (fun x hx => by cases List.mem_singleton.mp hx; decide))
            have jv67 := jv58.kept ha hk67 (by decide)
            have jg67 := jG.now01 ha hk67 hf67 (by omega) jg58
            have g067 := (hk67.1 a 11 0 11 0 fsX12 ha rfl (by decide) (by decide)).trans g058
            have jr67 := jr58.kept ha hk67 (by decide)
            refine lv_goto hx hb (eX12_read (338, .goto (-39), 3) (List.mem_of_getElem? (i := 151) rfl)) (tgt := 299) rfl ?_
            refine lv_aload_n hx hb (eX12_read (299, .aload_n 0, 1) (List.mem_of_getElem? (i := 131) rfl)) rfl (lv_at hl56 2 rfl) ?_
            refine tz_get (r := 11) (k := 36) (t := (0, 0, 3)) hx hb hh67 ha rfl rfl (hcl11 354 36 (0, 0, 3) (by decide) rfl).1 hf67 (eX12_read (300, .getfield 354, 3) (List.mem_of_getElem? (i := 132) rfl)) ?_
            refine lv_iload hx hb (eX12_read (303, .iload 4, 2) (List.mem_of_getElem? (i := 133) rfl)) (lv_at hl56 0 rfl) ?_
            refine ff_icmp_ge hx hb (eX12_read (305, .if_icmp .ge 36, 3) (List.mem_of_getElem? (i := 134) rfl)) (tgt := 341) rfl (fun c68 => ?_) (fun c68 => (by exfalso; omega))
            refine lv_aload_n hx hb (eX12_read (341, .aload_n 0, 1) (List.mem_of_getElem? (i := 152) rfl)) rfl (lv_at hl56 2 rfl) ?_
            obtain ⟨jt69, ⟨av69, fv69, bv69, f2969, f3069, f3169, hav69, hfv69, hbv69⟩, hu69⟩ := id jv67
            refine tz_get (r := 11) (k := 31) (t := (0, (-2147483648), 2147483647)) hx hb hh67 ha rfl rfl (hcl11 299 31 (0, (-2147483648), 2147483647) (by decide) rfl).1 f3169 (eX12_read (342, .getfield 299, 3) (List.mem_of_getElem? (i := 153) rfl)) ?_
            refine ff_sipush hx hb (eX12_read (345, .sipush 1000, 3) (List.mem_of_getElem? (i := 154) rfl)) (by decide) (by decide) (fun v70 e70 => ?_)
            refine ff_icmp_ge hx hb (eX12_read (348, .if_icmp .ge 9, 3) (List.mem_of_getElem? (i := 155) rfl)) (tgt := 357) rfl (fun c71 => ?_) (fun c71 => ?_)
            · skip
              have hnone : rdG T L fo.toInt gz hz0 = NONEI := by rw [← htot]; unfold v1G; dsimp only; rw [hend, hlk0]; unfold vfG; rw [if_neg (by omega), if_neg (by omega)]
              exact jn357 cv v55 ls56 _ _ hh67 kp67 g067 (by omega) hnone (lv_sub hl56 [1, 0, 2] rfl)
            · skip
              refine lv_aload_n hx hb (eX12_read (351, .aload_n 0, 1) (List.mem_of_getElem? (i := 156) rfl)) rfl (lv_at hl56 2 rfl) ?_
              refine tz_get (r := 11) (k := 31) (t := (0, (-2147483648), 2147483647)) hx hb hh67 ha rfl rfl (hcl11 299 31 (0, (-2147483648), 2147483647) (by decide) rfl).1 f3169 (eX12_read (352, .getfield 299, 3) (List.mem_of_getElem? (i := 157) rfl)) ?_
              refine ff_i2l hx hb (eX12_read (355, .i2l, 1) (List.mem_of_getElem? (i := 158) rfl)) (fun v72 e72 => ?_)
              have hvd : v72.toInt = rdG T L fo.toInt gz hz0 := by rw [← htot]; unfold v1G; dsimp only; rw [hend, hlk0]; unfold vfG; rw [if_neg (by omega), if_pos (by omega)]; omega
              exact W.lret hx hb hr (fun t ht hW => ⟨_, _, rfl, by rw [ht]; exact hh67.l0, by rw [ht]; exact kp67, by rw [ht]; exact g067, Or.inr ⟨by omega, by omega, hvd.trans (rdG_any hL hT)⟩⟩) hh67.2.2.1 (eX12_read (356, .lreturn, 1) (List.mem_of_getElem? (i := 159) rfl))
          · skip
            have h040 : g0 0 ≠ 4 := by omega
            refine lv_aload_n hx hb (eX12_read (320, .aload_n 0, 1) (List.mem_of_getElem? (i := 141) rfl)) rfl (lv_at hl56 2 rfl) ?_
            refine tz_rowV (As := []) (st := []) (b := a) (C := RX12) (Ts := gT) hx hb hml hown h2 (fun _ h => h) (hX12_lookAtDate l D cA ro sz H0 a T (gj) 0 g0 h0 ha (by decide) hT (hgb h040)) ⟨rfl, rfl⟩ ⟨by decide, by decide⟩ ⟨by decide, by decide⟩ (tb_8 117 rfl rfl) (tb_1 12 rfl rfl) (tb_8 114 rfl rfl) (tb_8 116 rfl rfl) (tb_0 52 rfl rfl) (show yX12_lookAtDate.cls ≠ "java/lang/invoke/MethodHandle" ∧ yX12_lookAtDate.cls ≠ "java/lang/invoke/VarHandle" ∧ (parseMethodDescriptor yX12_lookAtDate.desc).map (fun d => d.parameters.length) = some 0 by decide +kernel) zs_blind (zs_ob hh61 ha (show RTg[11]? = some (0, 11, 0, fsX12) from rfl) (zCX12 hKn.1)) (fun U hU hW => ⟨rfl, by rw [hU]; exact hh61.l0, zKb s U hW.alike hKn, by rw [hU]; exact ⟨jv58, jg58⟩⟩) hh61.2.2.1 hl56.1 (Nat.le_of_ble_eq_true rfl) (eX12_read (321, .invokevirtual 428, 3) (List.mem_of_getElem? (i := 142) rfl)) (fun r73 s73 t73 lo73 g73 f73 l73 => ?_)
            obtain ⟨q73, z73, c73, jv73, jg73, hv73, dv73, fh73, eh73, fd73, ed73⟩ := f73
            cases q73
            rw [g73] at c73
            have hh73 : zh_ok D cA RTg ro sz H0 t73.heap lo73 := ⟨z73.1, z73.2.1, l73, z73.2.2.2⟩
            have kp73 := kp58.trans (c73.mono (ms' := rdK) (by decide))
            generalize hx73 : ((gj.1, gj.2.1, ldb g0 gj.2.2) : uS) = x73 at jv73
            have g073 := (c73.1 a 11 0 11 0 fsX12 ha rfl (by decide) (by decide)).trans g058
            have jr73 := jr58.kept ha c73 (by decide)
            refine W.eq (g2 := F0 m 324 ls56 []) rfl ?_
            refine lv_aload_n hx hb (eX12_read (324, .aload_n 0, 1) (List.mem_of_getElem? (i := 143) rfl)) rfl (lv_at hl56 2 rfl) ?_
            refine tz_rowV (As := []) (st := []) (b := a) (C := RX12) (Ts := gT) hx hb hml hown h2 (fun _ h => h) (hX12_lookAtTime l D cA ro sz H0 a L (ldHx g0) dv73.toInt hv73 dv73 T (x73) 0 g0 h0 ha (by decide) hT (hgb h040) eh73 rfl (by rcases ldHx_01 g0 with q9 | q9; (exact Or.inr q9.1); (exact Or.inl q9)) (fun q9 => by rw [ed73 (by omega)]; rcases ldHx_01 g0 with q8 | q8; (exact q8.2); (exfalso; omega))) ⟨rfl, rfl⟩ ⟨by decide, by decide⟩ ⟨by decide, by decide⟩ (tb_8 122 rfl rfl) (tb_1 12 rfl rfl) (tb_8 119 rfl rfl) (tb_8 121 rfl rfl) (tb_0 53 rfl rfl) (show yX12_lookAtTime.cls ≠ "java/lang/invoke/MethodHandle" ∧ yX12_lookAtTime.cls ≠ "java/lang/invoke/VarHandle" ∧ (parseMethodDescriptor yX12_lookAtTime.desc).map (fun d => d.parameters.length) = some 0 by decide +kernel) zs_blind (zs_ob hh73 ha (show RTg[11]? = some (0, 11, 0, fsX12) from rfl) (zCX12 hKn.1)) (fun U hU hW => ⟨rfl, by rw [hU]; exact hh73.l0, zKb s U hW.alike hKn, by rw [hU]; exact ⟨jv73, jg73, jr73, fd73, fh73⟩⟩) hh73.2.2.1 hl56.1 (Nat.le_of_ble_eq_true rfl) (eX12_read (325, .invokevirtual 439, 3) (List.mem_of_getElem? (i := 144) rfl)) (fun r74 s74 t74 lo74 g74 f74 l74 => ?_)
            obtain ⟨q74, z74, c74, jv74, jg74, jr74⟩ := f74
            cases q74
            rw [g74] at c74
            have hh74 : zh_ok D cA RTg ro sz H0 t74.heap lo74 := ⟨z74.1, z74.2.1, l74, z74.2.2.2⟩
            have kp74 := kp73.trans (c74.mono (ms' := rdK) (by decide))
            generalize hx74 : ((x73.1, x73.2.1, ltB L g0 (ldHx g0) dv73.toInt x73.2.2) : uS) = x74 at jv74
            have g074 := (c74.1 a 11 0 11 0 fsX12 ha rfl (by decide) (by decide)).trans g073
            refine W.eq (g2 := F0 m 328 ls56 []) rfl ?_
            have hlk0 : lkB L g0 gj.2.2 = x74.2.2 := by unfold lkB; rw [if_neg h040, ← hx74, ← hx73]; exact (ltB_dy (fun q9 => ed73 (by omega))).symm
            refine lv_aload_n hx hb (eX12_read (328, .aload_n 0, 1) (List.mem_of_getElem? (i := 145) rfl)) rfl (lv_at hl56 2 rfl) ?_
            refine lv_dup hx hb (eX12_read (329, .dup, 1) (List.mem_of_getElem? (i := 146) rfl)) rfl ?_
            obtain ⟨-, -, nw75, -, -, -, -, f3675, hnw75⟩ := id jg74
            refine tz_get (r := 11) (k := 36) (t := (0, 0, 3)) hx hb hh74 ha rfl rfl (hcl11 354 36 (0, 0, 3) (by decide) rfl).1 f3675 (eX12_read (330, .getfield 354, 3) (List.mem_of_getElem? (i := 147) rfl)) ?_
            refine ff_iconst hx hb (eX12_read (333, .iconst 1, 1) (List.mem_of_getElem? (i := 148) rfl)) (by decide) (by decide) (fun v76 e76 => ?_)
            refine ff_iadd hx hb (eX12_read (334, .iadd, 1) (List.mem_of_getElem? (i := 149) rfl)) (by omega) (by omega) (fun v77 e77 => ?_)
            refine tz_put (r := 11) (k := 36) (t := (0, 0, 3)) hx hb hD hh74 ha rfl rfl ((hcl11 354 36 (0, 0, 3) (by decide) rfl).2 (by decide)) (tz_i (by omega) (by omega)) (eX12_read (335, .putfield 354, 3) (List.mem_of_getElem? (i := 150) rfl)) (fun H78 lo78 hh78 hf78 hk78 _ hq78 => ?_)
            have kp78 := kp74.trans (hk78.mono (ms' := rdK) (fun x hx => by cases List.mem_singleton.mp hx; decide))
            have jv78 := jv74.kept ha hk78 (by decide)
            have jg78 := jG.now01 ha hk78 hf78 (by omega) jg74
            have g078 := (hk78.1 a 11 0 11 0 fsX12 ha rfl (by decide) (by decide)).trans g074
            have jr78 := jr74.kept ha hk78 (by decide)
            refine lv_goto hx hb (eX12_read (338, .goto (-39), 3) (List.mem_of_getElem? (i := 151) rfl)) (tgt := 299) rfl ?_
            refine lv_aload_n hx hb (eX12_read (299, .aload_n 0, 1) (List.mem_of_getElem? (i := 131) rfl)) rfl (lv_at hl56 2 rfl) ?_
            refine tz_get (r := 11) (k := 36) (t := (0, 0, 3)) hx hb hh78 ha rfl rfl (hcl11 354 36 (0, 0, 3) (by decide) rfl).1 hf78 (eX12_read (300, .getfield 354, 3) (List.mem_of_getElem? (i := 132) rfl)) ?_
            refine lv_iload hx hb (eX12_read (303, .iload 4, 2) (List.mem_of_getElem? (i := 133) rfl)) (lv_at hl56 0 rfl) ?_
            refine ff_icmp_ge hx hb (eX12_read (305, .if_icmp .ge 36, 3) (List.mem_of_getElem? (i := 134) rfl)) (tgt := 341) rfl (fun c79 => ?_) (fun c79 => (by exfalso; omega))
            refine lv_aload_n hx hb (eX12_read (341, .aload_n 0, 1) (List.mem_of_getElem? (i := 152) rfl)) rfl (lv_at hl56 2 rfl) ?_
            obtain ⟨jt80, ⟨av80, fv80, bv80, f2980, f3080, f3180, hav80, hfv80, hbv80⟩, hu80⟩ := id jv78
            refine tz_get (r := 11) (k := 31) (t := (0, (-2147483648), 2147483647)) hx hb hh78 ha rfl rfl (hcl11 299 31 (0, (-2147483648), 2147483647) (by decide) rfl).1 f3180 (eX12_read (342, .getfield 299, 3) (List.mem_of_getElem? (i := 153) rfl)) ?_
            refine ff_sipush hx hb (eX12_read (345, .sipush 1000, 3) (List.mem_of_getElem? (i := 154) rfl)) (by decide) (by decide) (fun v81 e81 => ?_)
            refine ff_icmp_ge hx hb (eX12_read (348, .if_icmp .ge 9, 3) (List.mem_of_getElem? (i := 155) rfl)) (tgt := 357) rfl (fun c82 => ?_) (fun c82 => ?_)
            · skip
              have hnone : rdG T L fo.toInt gz hz0 = NONEI := by rw [← htot]; unfold v1G; dsimp only; rw [hend, hlk0]; unfold vfG; rw [if_neg (by omega), if_neg (by omega)]
              exact jn357 cv v55 ls56 _ _ hh78 kp78 g078 (by omega) hnone (lv_sub hl56 [1, 0, 2] rfl)
            · skip
              refine lv_aload_n hx hb (eX12_read (351, .aload_n 0, 1) (List.mem_of_getElem? (i := 156) rfl)) rfl (lv_at hl56 2 rfl) ?_
              refine tz_get (r := 11) (k := 31) (t := (0, (-2147483648), 2147483647)) hx hb hh78 ha rfl rfl (hcl11 299 31 (0, (-2147483648), 2147483647) (by decide) rfl).1 f3180 (eX12_read (352, .getfield 299, 3) (List.mem_of_getElem? (i := 157) rfl)) ?_
              refine ff_i2l hx hb (eX12_read (355, .i2l, 1) (List.mem_of_getElem? (i := 158) rfl)) (fun v83 e83 => ?_)
              have hvd : v83.toInt = rdG T L fo.toInt gz hz0 := by rw [← htot]; unfold v1G; dsimp only; rw [hend, hlk0]; unfold vfG; rw [if_neg (by omega), if_pos (by omega)]; omega
              exact W.lret hx hb hr (fun t ht hW => ⟨_, _, rfl, by rw [ht]; exact hh78.l0, by rw [ht]; exact kp78, by rw [ht]; exact g078, Or.inr ⟨by omega, by omega, hvd.trans (rdG_any hL hT)⟩⟩) hh78.2.2.1 (eX12_read (356, .lreturn, 1) (List.mem_of_getElem? (i := 159) rfl))
        · skip
          have hend : endG T gj = flG gj := by unfold endG; rw [if_pos (by omega)]
          refine lv_aload_n hx hb (eX12_read (265, .aload_n 0, 1) (List.mem_of_getElem? (i := 112) rfl)) rfl (lv_at hl 1 rfl) ?_
          refine tz_rowV (As := []) (st := []) (b := a) (C := RX12) (Ts := gT) hx hb hml hown h2 (fun _ h => h) (hX12_fail l D cA ro sz H0 a T (gj) ha) ⟨rfl, rfl⟩ ⟨by decide, by decide⟩ ⟨by decide, by decide⟩ (tb_8 31 rfl rfl) (tb_1 12 rfl rfl) (tb_8 28 rfl rfl) (tb_8 30 rfl rfl) (tb_0 33 rfl rfl) (show yX12_fail.cls ≠ "java/lang/invoke/MethodHandle" ∧ yX12_fail.cls ≠ "java/lang/invoke/VarHandle" ∧ (parseMethodDescriptor yX12_fail.desc).map (fun d => d.parameters.length) = some 0 by decide +kernel) zs_blind (zs_ob hh44 ha (show RTg[11]? = some (0, 11, 0, fsX12) from rfl) (zCX12 hKn.1)) (fun U hU hW => ⟨rfl, by rw [hU]; exact hh44.l0, zKb s U hW.alike hKn, by rw [hU]; exact jl⟩) hh44.2.2.1 hl.1 (Nat.le_of_ble_eq_true rfl) (eX12_read (266, .invokevirtual 316, 3) (List.mem_of_getElem? (i := 113) rfl)) (fun r84 s84 t84 lo84 g84 f84 l84 => ?_)
          obtain ⟨q84, z84, c84, jv84⟩ := f84
          cases q84
          rw [g84] at c84
          have hh84 : zh_ok D cA RTg ro sz H0 t84.heap lo84 := ⟨z84.1, z84.2.1, l84, z84.2.2.2⟩
          have kp84 := kpl.trans (c84.mono (ms' := rdK) (by decide))
          generalize hx84 : flG gj = x84 at jv84
          have uu84 := jv84.2.2
          unfold vOK at uu84
          have bb84 := byI_bd T x84.1
          have jg84 := jgl.kept ha c84 (by decide)
          have g084 := (c84.1 a 11 0 11 0 fsX12 ha rfl (by decide) (by decide)).trans fw
          have jr84 := jrl.kept ha c84 (by decide)
          refine W.eq (g2 := F0 m 269 ls []) rfl ?_
          rw [hx84] at hend
          have hfn := flG_nn (T := T) (r := gj) jl.2.2
          rw [hx84] at hfn
          refine lv_aload_n hx hb (eX12_read (269, .aload_n 0, 1) (List.mem_of_getElem? (i := 114) rfl)) rfl (lv_at hl 1 rfl) ?_
          obtain ⟨jt85, ⟨av85, fv85, bv85, f2985, f3085, f3185, hav85, hfv85, hbv85⟩, hu85⟩ := id jv84
          refine tz_get (r := 11) (k := 30) (t := (0, (-1), 120)) hx hb hh84 ha rfl rfl (hcl11 296 30 (0, (-1), 120) (by decide) rfl).1 f3085 (eX12_read (270, .getfield 296, 3) (List.mem_of_getElem? (i := 115) rfl)) ?_
          refine ff_if_lt hx hb (eX12_read (273, .ifCond .lt 9, 3) (List.mem_of_getElem? (i := 116) rfl)) (tgt := 282) rfl (fun c86 => (by exfalso; omega)) (fun c86 => ?_)
          refine lv_aload_n hx hb (eX12_read (276, .aload_n 0, 1) (List.mem_of_getElem? (i := 117) rfl)) rfl (lv_at hl 1 rfl) ?_
          refine tz_get (r := 11) (k := 30) (t := (0, (-1), 120)) hx hb hh84 ha rfl rfl (hcl11 296 30 (0, (-1), 120) (by decide) rfl).1 f3085 (eX12_read (277, .getfield 296, 3) (List.mem_of_getElem? (i := 118) rfl)) ?_
          refine ff_i2l hx hb (eX12_read (280, .i2l, 1) (List.mem_of_getElem? (i := 119) rfl)) (fun v87 e87 => ?_)
          have hvd : v87.toInt = rdG T L fo.toInt gz hz0 := by rw [← htot]; unfold v1G; dsimp only; rw [hend]; unfold vfG; rw [if_pos (by omega)]; omega
          exact W.lret hx hb hr (fun t ht hW => ⟨_, _, rfl, by rw [ht]; exact hh84.l0, by rw [ht]; exact kp84, by rw [ht]; exact g084, Or.inr ⟨by omega, by omega, hvd.trans (rdG_any hL hT)⟩⟩) hh84.2.2.1 (eX12_read (281, .lreturn, 1) (List.mem_of_getElem? (i := 120) rfl))
    have jn247b : ∀ (g0 h0 : fN) (gj : uS) (cv : Int64) (ls : Array Slot) (H : Heap) (lo0 : List Loc), zh_ok D cA RTg ro sz H0 H lo0 → zc_kept D RTg ro rdK s.heap H → jV D cA ro H a T gj → jG D cA ro H a 1 g0 h0 → jR D cA ro H a L → zh_f D H a 11 0 = .int v10 → 5 ≤ fo.toInt → v2G T L (h0, g0, gj) = rdG T L fo.toInt gz hz0 → (gj.2.1 < 0 → gQ h0 ∧ gQ g0) → lv_has ls 8 [(2, .long cv), (0, .ref a), (1, .int fo)] → W p l e (headSpec (gW yX12_read cX12_read 8 (some .long)) { frames := 6, cells := 0, slots := 0, locals := 167 }).room s m ([.ref a, .int fo] : List Value).toArray below meth c H lo0 0 0 (MQ below (fun _ st oc t => ∃ (r : Int64) (w : Int32), oc = .returned (some (.long r)) ∧ zh_ok D cA RTg ro sz H0 t.heap [] ∧ zc_kept D RTg ro rdK st.heap t.heap ∧ zh_f D t.heap a 11 0 = .int w ∧ spRd fo.toInt T L w.toInt r.toInt) ([.ref a, .int fo] : List Value).toArray s 0 0 (zy_fr sz)) (F0 m 247 ls []) := by
      intro g0 h0 gj cv ls H lo0 hh0 kpl jl jgl jrl fw hfo htot hgq hl
      have hul := jl.2.2
      unfold vOK at hul
      refine lv_aload_n hx hb (eX12_read (247, .aload_n 0, 1) (List.mem_of_getElem? (i := 104) rfl)) rfl (lv_at hl 1 rfl) ?_
      refine tz_rowV (As := []) (st := []) (b := a) (C := RX12) (Ts := gT) hx hb hml hown h2 (fun _ h => h) (hX12_isGood l D cA ro sz H0 a T (gj) ha) ⟨rfl, rfl⟩ ⟨by decide, by decide⟩ ⟨by decide, by decide⟩ (tb_8 17 rfl rfl) (tb_1 12 rfl rfl) (tb_8 14 rfl rfl) (tb_8 16 rfl rfl) (tb_0 31 rfl rfl) (show yX12_isGood.cls ≠ "java/lang/invoke/MethodHandle" ∧ yX12_isGood.cls ≠ "java/lang/invoke/VarHandle" ∧ (parseMethodDescriptor yX12_isGood.desc).map (fun d => d.parameters.length) = some 0 by decide +kernel) zs_blind (zs_ob hh0 ha (show RTg[11]? = some (0, 11, 0, fsX12) from rfl) (zCX12 hKn.1)) (fun U hU hW => ⟨rfl, by rw [hU]; exact hh0.l0, zKb s U hW.alike hKn, by rw [hU]; exact jl⟩) hh0.2.2.1 hl.1 (Nat.le_of_ble_eq_true rfl) (eX12_read (248, .invokevirtual 305, 3) (List.mem_of_getElem? (i := 105) rfl)) (fun r88 s88 t88 lo88 g88 f88 l88 => ?_)
      obtain ⟨z88, v88, q88, e88⟩ := f88
      cases q88
      rw [z88, g88]
      have hh88 : zh_ok D cA RTg ro sz H0 H lo88 := ⟨hh0.1, hh0.2.1, l88, hh0.2.2.2⟩
      refine W.eq (g2 := F0 m 251 ls [.int v88]) rfl ?_
      refine ff_if_eq hx hb (eX12_read (251, .ifCond .eq 18, 3) (List.mem_of_getElem? (i := 106) rfl)) (tgt := 269) rfl (fun c89 => ?_) (fun c89 => ?_)
      · skip
        have hend : endG T gj = gj := by unfold endG; rw [if_neg (by omega)]
        refine lv_aload_n hx hb (eX12_read (269, .aload_n 0, 1) (List.mem_of_getElem? (i := 114) rfl)) rfl (lv_at hl 1 rfl) ?_
        obtain ⟨jt90, ⟨av90, fv90, bv90, f2990, f3090, f3190, hav90, hfv90, hbv90⟩, hu90⟩ := id jl
        refine tz_get (r := 11) (k := 30) (t := (0, (-1), 120)) hx hb hh88 ha rfl rfl (hcl11 296 30 (0, (-1), 120) (by decide) rfl).1 f3090 (eX12_read (270, .getfield 296, 3) (List.mem_of_getElem? (i := 115) rfl)) ?_
        refine ff_if_lt hx hb (eX12_read (273, .ifCond .lt 9, 3) (List.mem_of_getElem? (i := 116) rfl)) (tgt := 282) rfl (fun c91 => (by exfalso; omega)) (fun c91 => ?_)
        refine lv_aload_n hx hb (eX12_read (276, .aload_n 0, 1) (List.mem_of_getElem? (i := 117) rfl)) rfl (lv_at hl 1 rfl) ?_
        refine tz_get (r := 11) (k := 30) (t := (0, (-1), 120)) hx hb hh88 ha rfl rfl (hcl11 296 30 (0, (-1), 120) (by decide) rfl).1 f3090 (eX12_read (277, .getfield 296, 3) (List.mem_of_getElem? (i := 118) rfl)) ?_
        refine ff_i2l hx hb (eX12_read (280, .i2l, 1) (List.mem_of_getElem? (i := 119) rfl)) (fun v92 e92 => ?_)
        have hvd : v92.toInt = rdG T L fo.toInt gz hz0 := by rw [← htot]; unfold v2G; dsimp only; rw [hend]; unfold vfG; rw [if_pos (by omega)]; omega
        exact W.lret hx hb hr (fun t ht hW => ⟨_, _, rfl, by rw [ht]; exact hh88.l0, by rw [ht]; exact kpl, by rw [ht]; exact fw, Or.inr ⟨by omega, by omega, hvd.trans (rdG_any hL hT)⟩⟩) hh88.2.2.1 (eX12_read (281, .lreturn, 1) (List.mem_of_getElem? (i := 120) rfl))
      · skip
        refine lv_aload_n hx hb (eX12_read (254, .aload_n 0, 1) (List.mem_of_getElem? (i := 107) rfl)) rfl (lv_at hl 1 rfl) ?_
        obtain ⟨jt93, ⟨av93, fv93, bv93, f2993, f3093, f3193, hav93, hfv93, hbv93⟩, hu93⟩ := id jl
        refine tz_get (r := 11) (k := 29) (t := (0, 0, 120)) hx hb hh88 ha rfl rfl (hcl11 293 29 (0, 0, 120) (by decide) rfl).1 f2993 (eX12_read (255, .getfield 293, 3) (List.mem_of_getElem? (i := 108) rfl)) ?_
        refine lv_aload_n hx hb (eX12_read (258, .aload_n 0, 1) (List.mem_of_getElem? (i := 109) rfl)) rfl (lv_at hl 1 rfl) ?_
        obtain ⟨tb94, n94, z94, f1294, r094, f1394, hn94, hc94, hz94⟩ := id jl.1
        refine tz_get (r := 11) (k := 13) (t := (0, 0, 120)) hx hb hh88 ha rfl rfl (hcl11 302 13 (0, 0, 120) (by decide) rfl).1 f1394 (eX12_read (259, .getfield 302, 3) (List.mem_of_getElem? (i := 110) rfl)) ?_
        refine ff_icmp_ge hx hb (eX12_read (262, .if_icmp .ge 7, 3) (List.mem_of_getElem? (i := 111) rfl)) (tgt := 269) rfl (fun c95 => ?_) (fun c95 => ?_)
        · skip
          have hend : endG T gj = gj := by unfold endG; rw [if_neg (by omega)]
          refine lv_aload_n hx hb (eX12_read (269, .aload_n 0, 1) (List.mem_of_getElem? (i := 114) rfl)) rfl (lv_at hl 1 rfl) ?_
          refine tz_get (r := 11) (k := 30) (t := (0, (-1), 120)) hx hb hh88 ha rfl rfl (hcl11 296 30 (0, (-1), 120) (by decide) rfl).1 f3093 (eX12_read (270, .getfield 296, 3) (List.mem_of_getElem? (i := 115) rfl)) ?_
          refine ff_if_lt hx hb (eX12_read (273, .ifCond .lt 9, 3) (List.mem_of_getElem? (i := 116) rfl)) (tgt := 282) rfl (fun c96 => ?_) (fun c96 => (by exfalso; omega))
          refine lv_iload_n hx hb (eX12_read (282, .iload_n 1, 1) (List.mem_of_getElem? (i := 121) rfl)) rfl (lv_at hl 2 rfl) ?_
          refine ff_iconst hx hb (eX12_read (283, .iconst 5, 1) (List.mem_of_getElem? (i := 122) rfl)) (by decide) (by decide) (fun v97 e97 => ?_)
          refine ff_icmp_lt hx hb (eX12_read (284, .if_icmp .lt 7, 3) (List.mem_of_getElem? (i := 123) rfl)) (tgt := 291) rfl (fun c98 => (by exfalso; omega)) (fun c98 => ?_)
          refine ff_iconst hx hb (eX12_read (287, .iconst 2, 1) (List.mem_of_getElem? (i := 124) rfl)) (by decide) (by decide) (fun v99 e99 => ?_)
          refine lv_goto hx hb (eX12_read (288, .goto 4, 3) (List.mem_of_getElem? (i := 125) rfl)) (tgt := 292) rfl ?_
          refine lv_istore hx hb (eX12_read (292, .istore 4, 2) (List.mem_of_getElem? (i := 127) rfl)) hl (by decide) rfl (fun ls100 hl100 => ?_)
          have hgb := hgq (by omega)
          refine lv_aload_n hx hb (eX12_read (294, .aload_n 0, 1) (List.mem_of_getElem? (i := 128) rfl)) rfl (lv_at hl100 2 rfl) ?_
          refine ff_iconst hx hb (eX12_read (295, .iconst 0, 1) (List.mem_of_getElem? (i := 129) rfl)) (by decide) (by decide) (fun v101 e101 => ?_)
          refine tz_put (r := 11) (k := 36) (t := (0, 0, 3)) hx hb hD hh88 ha rfl rfl ((hcl11 354 36 (0, 0, 3) (by decide) rfl).2 (by decide)) (tz_i (by omega) (by omega)) (eX12_read (296, .putfield 354, 3) (List.mem_of_getElem? (i := 130) rfl)) (fun H102 lo102 hh102 hf102 hk102 _ hq102 => ?_)
          have kp102 := kpl.trans (hk102.mono (ms' := rdK) (fun x hx => by cases List.mem_singleton.mp hx; decide))
          have jv102 := jl.kept ha hk102 (by decide)
          have jg102 := jG.now10 ha hk102 hf102 (by omega) jgl
          have g0102 := (hk102.1 a 11 0 11 0 fsX12 ha rfl (by decide) (by decide)).trans fw
          have jr102 := jrl.kept ha hk102 (by decide)
          refine lv_aload_n hx hb (eX12_read (299, .aload_n 0, 1) (List.mem_of_getElem? (i := 131) rfl)) rfl (lv_at hl100 2 rfl) ?_
          refine tz_get (r := 11) (k := 36) (t := (0, 0, 3)) hx hb hh102 ha rfl rfl (hcl11 354 36 (0, 0, 3) (by decide) rfl).1 hf102 (eX12_read (300, .getfield 354, 3) (List.mem_of_getElem? (i := 132) rfl)) ?_
          refine lv_iload hx hb (eX12_read (303, .iload 4, 2) (List.mem_of_getElem? (i := 133) rfl)) (lv_at hl100 0 rfl) ?_
          refine ff_icmp_ge hx hb (eX12_read (305, .if_icmp .ge 36, 3) (List.mem_of_getElem? (i := 134) rfl)) (tgt := 341) rfl (fun c103 => (by exfalso; omega)) (fun c103 => ?_)
          refine lv_aload_n hx hb (eX12_read (308, .aload_n 0, 1) (List.mem_of_getElem? (i := 135) rfl)) rfl (lv_at hl100 2 rfl) ?_
          refine ff_iconst hx hb (eX12_read (309, .iconst 0, 1) (List.mem_of_getElem? (i := 136) rfl)) (by decide) (by decide) (fun v104 e104 => ?_)
          refine tz_rowV (As := [.int v104]) (st := []) (b := a) (C := RX12) (Ts := gT) hx hb hml hown h2 (fun _ h => h) (hX12_get l D cA ro sz H0 a v104 0 0 h0 g0 ha (by decide) (by omega) (by decide)) ⟨rfl, rfl⟩ ⟨by decide, by decide⟩ ⟨by decide, by decide⟩ (tb_8 94 rfl rfl) (tb_1 12 rfl rfl) (tb_8 91 rfl rfl) (tb_8 93 rfl rfl) (tb_0 47 rfl rfl) (show yX12_get.cls ≠ "java/lang/invoke/MethodHandle" ∧ yX12_get.cls ≠ "java/lang/invoke/VarHandle" ∧ (parseMethodDescriptor yX12_get.desc).map (fun d => d.parameters.length) = some 1 by decide +kernel) zs_blind (zs_ob hh102 ha (show RTg[11]? = some (0, 11, 0, fsX12) from rfl) (zCX12 hKn.1)) (fun U hU hW => ⟨rfl, by rw [hU]; exact hh102.l0, zKb s U hW.alike hKn, by rw [hU]; exact jg102⟩) hh102.2.2.1 hl100.1 (Nat.le_of_ble_eq_true rfl) (eX12_read (310, .invokevirtual 361, 3) (List.mem_of_getElem? (i := 137) rfl)) (fun r105 s105 t105 lo105 g105 f105 l105 => ?_)
          obtain ⟨z105, v105, q105, e105⟩ := f105
          cases q105
          rw [z105, g105]
          have hh105 : zh_ok D cA RTg ro sz H0 H102 lo105 := ⟨hh102.1, hh102.2.1, l105, hh102.2.2.2⟩
          refine W.eq (g2 := F0 m 313 ls100 [.long v105]) rfl ?_
          refine ff_ldc2 (n := 4) hx hb hown h2 (clX12_ok 89 4 (List.mem_of_getElem? (i := 3) rfl)) (eX12_read (313, .ldc2_w 89, 3) (List.mem_of_getElem? (i := 138) rfl)) (fun v106 e106 => ?_)
          refine ff_lcmp hx hb (eX12_read (316, .lcmp, 1) (List.mem_of_getElem? (i := 139) rfl)) (fun v107 e107 => ?_)
          refine ff_if_eq hx hb (eX12_read (317, .ifCond .eq 11, 3) (List.mem_of_getElem? (i := 140) rfl)) (tgt := 328) rfl (fun c108 => ?_) (fun c108 => ?_)
          · skip
            have hlk0 : lkB L h0 gj.2.2 = gj.2.2 := by unfold lkB; rw [if_pos (by omega)]
            refine lv_aload_n hx hb (eX12_read (328, .aload_n 0, 1) (List.mem_of_getElem? (i := 145) rfl)) rfl (lv_at hl100 2 rfl) ?_
            refine lv_dup hx hb (eX12_read (329, .dup, 1) (List.mem_of_getElem? (i := 146) rfl)) rfl ?_
            refine tz_get (r := 11) (k := 36) (t := (0, 0, 3)) hx hb hh105 ha rfl rfl (hcl11 354 36 (0, 0, 3) (by decide) rfl).1 hf102 (eX12_read (330, .getfield 354, 3) (List.mem_of_getElem? (i := 147) rfl)) ?_
            refine ff_iconst hx hb (eX12_read (333, .iconst 1, 1) (List.mem_of_getElem? (i := 148) rfl)) (by decide) (by decide) (fun v109 e109 => ?_)
            refine ff_iadd hx hb (eX12_read (334, .iadd, 1) (List.mem_of_getElem? (i := 149) rfl)) (by omega) (by omega) (fun v110 e110 => ?_)
            refine tz_put (r := 11) (k := 36) (t := (0, 0, 3)) hx hb hD hh105 ha rfl rfl ((hcl11 354 36 (0, 0, 3) (by decide) rfl).2 (by decide)) (tz_i (by omega) (by omega)) (eX12_read (335, .putfield 354, 3) (List.mem_of_getElem? (i := 150) rfl)) (fun H111 lo111 hh111 hf111 hk111 _ hq111 => ?_)
            have kp111 := kp102.trans (hk111.mono (ms' := rdK) (fun x hx => by cases List.mem_singleton.mp hx; decide))
            have jv111 := jv102.kept ha hk111 (by decide)
            have jg111 := jG.now01 ha hk111 hf111 (by omega) jg102
            have g0111 := (hk111.1 a 11 0 11 0 fsX12 ha rfl (by decide) (by decide)).trans g0102
            have jr111 := jr102.kept ha hk111 (by decide)
            refine lv_goto hx hb (eX12_read (338, .goto (-39), 3) (List.mem_of_getElem? (i := 151) rfl)) (tgt := 299) rfl ?_
            refine lv_aload_n hx hb (eX12_read (299, .aload_n 0, 1) (List.mem_of_getElem? (i := 131) rfl)) rfl (lv_at hl100 2 rfl) ?_
            refine tz_get (r := 11) (k := 36) (t := (0, 0, 3)) hx hb hh111 ha rfl rfl (hcl11 354 36 (0, 0, 3) (by decide) rfl).1 hf111 (eX12_read (300, .getfield 354, 3) (List.mem_of_getElem? (i := 132) rfl)) ?_
            refine lv_iload hx hb (eX12_read (303, .iload 4, 2) (List.mem_of_getElem? (i := 133) rfl)) (lv_at hl100 0 rfl) ?_
            refine ff_icmp_ge hx hb (eX12_read (305, .if_icmp .ge 36, 3) (List.mem_of_getElem? (i := 134) rfl)) (tgt := 341) rfl (fun c112 => (by exfalso; omega)) (fun c112 => ?_)
            refine lv_aload_n hx hb (eX12_read (308, .aload_n 0, 1) (List.mem_of_getElem? (i := 135) rfl)) rfl (lv_at hl100 2 rfl) ?_
            refine ff_iconst hx hb (eX12_read (309, .iconst 0, 1) (List.mem_of_getElem? (i := 136) rfl)) (by decide) (by decide) (fun v113 e113 => ?_)
            refine tz_rowV (As := [.int v113]) (st := []) (b := a) (C := RX12) (Ts := gT) hx hb hml hown h2 (fun _ h => h) (hX12_get l D cA ro sz H0 a v113 0 1 g0 h0 ha (by decide) (by omega) (by decide)) ⟨rfl, rfl⟩ ⟨by decide, by decide⟩ ⟨by decide, by decide⟩ (tb_8 94 rfl rfl) (tb_1 12 rfl rfl) (tb_8 91 rfl rfl) (tb_8 93 rfl rfl) (tb_0 47 rfl rfl) (show yX12_get.cls ≠ "java/lang/invoke/MethodHandle" ∧ yX12_get.cls ≠ "java/lang/invoke/VarHandle" ∧ (parseMethodDescriptor yX12_get.desc).map (fun d => d.parameters.length) = some 1 by decide +kernel) zs_blind (zs_ob hh111 ha (show RTg[11]? = some (0, 11, 0, fsX12) from rfl) (zCX12 hKn.1)) (fun U hU hW => ⟨rfl, by rw [hU]; exact hh111.l0, zKb s U hW.alike hKn, by rw [hU]; exact jg111⟩) hh111.2.2.1 hl100.1 (Nat.le_of_ble_eq_true rfl) (eX12_read (310, .invokevirtual 361, 3) (List.mem_of_getElem? (i := 137) rfl)) (fun r114 s114 t114 lo114 g114 f114 l114 => ?_)
            obtain ⟨z114, v114, q114, e114⟩ := f114
            cases q114
            rw [z114, g114]
            have hh114 : zh_ok D cA RTg ro sz H0 H111 lo114 := ⟨hh111.1, hh111.2.1, l114, hh111.2.2.2⟩
            refine W.eq (g2 := F0 m 313 ls100 [.long v114]) rfl ?_
            refine ff_ldc2 (n := 4) hx hb hown h2 (clX12_ok 89 4 (List.mem_of_getElem? (i := 3) rfl)) (eX12_read (313, .ldc2_w 89, 3) (List.mem_of_getElem? (i := 138) rfl)) (fun v115 e115 => ?_)
            refine ff_lcmp hx hb (eX12_read (316, .lcmp, 1) (List.mem_of_getElem? (i := 139) rfl)) (fun v116 e116 => ?_)
            refine ff_if_eq hx hb (eX12_read (317, .ifCond .eq 11, 3) (List.mem_of_getElem? (i := 140) rfl)) (tgt := 328) rfl (fun c117 => ?_) (fun c117 => ?_)
            · skip
              have hlk1 : lkB L g0 gj.2.2 = gj.2.2 := by unfold lkB; rw [if_pos (by omega)]
              refine lv_aload_n hx hb (eX12_read (328, .aload_n 0, 1) (List.mem_of_getElem? (i := 145) rfl)) rfl (lv_at hl100 2 rfl) ?_
              refine lv_dup hx hb (eX12_read (329, .dup, 1) (List.mem_of_getElem? (i := 146) rfl)) rfl ?_
              refine tz_get (r := 11) (k := 36) (t := (0, 0, 3)) hx hb hh114 ha rfl rfl (hcl11 354 36 (0, 0, 3) (by decide) rfl).1 hf111 (eX12_read (330, .getfield 354, 3) (List.mem_of_getElem? (i := 147) rfl)) ?_
              refine ff_iconst hx hb (eX12_read (333, .iconst 1, 1) (List.mem_of_getElem? (i := 148) rfl)) (by decide) (by decide) (fun v118 e118 => ?_)
              refine ff_iadd hx hb (eX12_read (334, .iadd, 1) (List.mem_of_getElem? (i := 149) rfl)) (by omega) (by omega) (fun v119 e119 => ?_)
              refine tz_put (r := 11) (k := 36) (t := (0, 0, 3)) hx hb hD hh114 ha rfl rfl ((hcl11 354 36 (0, 0, 3) (by decide) rfl).2 (by decide)) (tz_i (by omega) (by omega)) (eX12_read (335, .putfield 354, 3) (List.mem_of_getElem? (i := 150) rfl)) (fun H120 lo120 hh120 hf120 hk120 _ hq120 => ?_)
              have kp120 := kp111.trans (hk120.mono (ms' := rdK) (fun x hx => by cases List.mem_singleton.mp hx; decide))
              have jv120 := jv111.kept ha hk120 (by decide)
              have g0120 := (hk120.1 a 11 0 11 0 fsX12 ha rfl (by decide) (by decide)).trans g0111
              have jr120 := jr111.kept ha hk120 (by decide)
              refine lv_goto hx hb (eX12_read (338, .goto (-39), 3) (List.mem_of_getElem? (i := 151) rfl)) (tgt := 299) rfl ?_
              refine lv_aload_n hx hb (eX12_read (299, .aload_n 0, 1) (List.mem_of_getElem? (i := 131) rfl)) rfl (lv_at hl100 2 rfl) ?_
              refine tz_get (r := 11) (k := 36) (t := (0, 0, 3)) hx hb hh120 ha rfl rfl (hcl11 354 36 (0, 0, 3) (by decide) rfl).1 hf120 (eX12_read (300, .getfield 354, 3) (List.mem_of_getElem? (i := 132) rfl)) ?_
              refine lv_iload hx hb (eX12_read (303, .iload 4, 2) (List.mem_of_getElem? (i := 133) rfl)) (lv_at hl100 0 rfl) ?_
              refine ff_icmp_ge hx hb (eX12_read (305, .if_icmp .ge 36, 3) (List.mem_of_getElem? (i := 134) rfl)) (tgt := 341) rfl (fun c121 => ?_) (fun c121 => (by exfalso; omega))
              refine lv_aload_n hx hb (eX12_read (341, .aload_n 0, 1) (List.mem_of_getElem? (i := 152) rfl)) rfl (lv_at hl100 2 rfl) ?_
              obtain ⟨jt122, ⟨av122, fv122, bv122, f29122, f30122, f31122, hav122, hfv122, hbv122⟩, hu122⟩ := id jv120
              refine tz_get (r := 11) (k := 31) (t := (0, (-2147483648), 2147483647)) hx hb hh120 ha rfl rfl (hcl11 299 31 (0, (-2147483648), 2147483647) (by decide) rfl).1 f31122 (eX12_read (342, .getfield 299, 3) (List.mem_of_getElem? (i := 153) rfl)) ?_
              refine ff_sipush hx hb (eX12_read (345, .sipush 1000, 3) (List.mem_of_getElem? (i := 154) rfl)) (by decide) (by decide) (fun v123 e123 => ?_)
              refine ff_icmp_ge hx hb (eX12_read (348, .if_icmp .ge 9, 3) (List.mem_of_getElem? (i := 155) rfl)) (tgt := 357) rfl (fun c124 => ?_) (fun c124 => ?_)
              · skip
                have hnone : rdG T L fo.toInt gz hz0 = NONEI := by rw [← htot]; unfold v2G; dsimp only; rw [hend, hlk0, hlk1]; unfold vfG; rw [if_neg (by omega), if_neg (by omega)]
                exact jn357 cv v99 ls100 _ _ hh120 kp120 g0120 (by omega) hnone (lv_sub hl100 [1, 0, 2] rfl)
              · skip
                refine lv_aload_n hx hb (eX12_read (351, .aload_n 0, 1) (List.mem_of_getElem? (i := 156) rfl)) rfl (lv_at hl100 2 rfl) ?_
                refine tz_get (r := 11) (k := 31) (t := (0, (-2147483648), 2147483647)) hx hb hh120 ha rfl rfl (hcl11 299 31 (0, (-2147483648), 2147483647) (by decide) rfl).1 f31122 (eX12_read (352, .getfield 299, 3) (List.mem_of_getElem? (i := 157) rfl)) ?_
                refine ff_i2l hx hb (eX12_read (355, .i2l, 1) (List.mem_of_getElem? (i := 158) rfl)) (fun v125 e125 => ?_)
                have hvd : v125.toInt = rdG T L fo.toInt gz hz0 := by rw [← htot]; unfold v2G; dsimp only; rw [hend, hlk0, hlk1]; unfold vfG; rw [if_neg (by omega), if_pos (by omega)]; omega
                exact W.lret hx hb hr (fun t ht hW => ⟨_, _, rfl, by rw [ht]; exact hh120.l0, by rw [ht]; exact kp120, by rw [ht]; exact g0120, Or.inr ⟨by omega, by omega, hvd.trans (rdG_any hL hT)⟩⟩) hh120.2.2.1 (eX12_read (356, .lreturn, 1) (List.mem_of_getElem? (i := 159) rfl))
            · skip
              have h041 : g0 0 ≠ 4 := by omega
              refine lv_aload_n hx hb (eX12_read (320, .aload_n 0, 1) (List.mem_of_getElem? (i := 141) rfl)) rfl (lv_at hl100 2 rfl) ?_
              refine tz_rowV (As := []) (st := []) (b := a) (C := RX12) (Ts := gT) hx hb hml hown h2 (fun _ h => h) (hX12_lookAtDate l D cA ro sz H0 a T (gj) 1 g0 h0 ha (by decide) hT (hgb.2 h041)) ⟨rfl, rfl⟩ ⟨by decide, by decide⟩ ⟨by decide, by decide⟩ (tb_8 117 rfl rfl) (tb_1 12 rfl rfl) (tb_8 114 rfl rfl) (tb_8 116 rfl rfl) (tb_0 52 rfl rfl) (show yX12_lookAtDate.cls ≠ "java/lang/invoke/MethodHandle" ∧ yX12_lookAtDate.cls ≠ "java/lang/invoke/VarHandle" ∧ (parseMethodDescriptor yX12_lookAtDate.desc).map (fun d => d.parameters.length) = some 0 by decide +kernel) zs_blind (zs_ob hh114 ha (show RTg[11]? = some (0, 11, 0, fsX12) from rfl) (zCX12 hKn.1)) (fun U hU hW => ⟨rfl, by rw [hU]; exact hh114.l0, zKb s U hW.alike hKn, by rw [hU]; exact ⟨jv111, jg111⟩⟩) hh114.2.2.1 hl100.1 (Nat.le_of_ble_eq_true rfl) (eX12_read (321, .invokevirtual 428, 3) (List.mem_of_getElem? (i := 142) rfl)) (fun r126 s126 t126 lo126 g126 f126 l126 => ?_)
              obtain ⟨q126, z126, c126, jv126, jg126, hv126, dv126, fh126, eh126, fd126, ed126⟩ := f126
              cases q126
              rw [g126] at c126
              have hh126 : zh_ok D cA RTg ro sz H0 t126.heap lo126 := ⟨z126.1, z126.2.1, l126, z126.2.2.2⟩
              have kp126 := kp111.trans (c126.mono (ms' := rdK) (by decide))
              generalize hx126 : ((gj.1, gj.2.1, ldb g0 gj.2.2) : uS) = x126 at jv126
              have g0126 := (c126.1 a 11 0 11 0 fsX12 ha rfl (by decide) (by decide)).trans g0111
              have jr126 := jr111.kept ha c126 (by decide)
              refine W.eq (g2 := F0 m 324 ls100 []) rfl ?_
              refine lv_aload_n hx hb (eX12_read (324, .aload_n 0, 1) (List.mem_of_getElem? (i := 143) rfl)) rfl (lv_at hl100 2 rfl) ?_
              refine tz_rowV (As := []) (st := []) (b := a) (C := RX12) (Ts := gT) hx hb hml hown h2 (fun _ h => h) (hX12_lookAtTime l D cA ro sz H0 a L (ldHx g0) dv126.toInt hv126 dv126 T (x126) 1 g0 h0 ha (by decide) hT (hgb.2 h041) eh126 rfl (by rcases ldHx_01 g0 with q9 | q9; (exact Or.inr q9.1); (exact Or.inl q9)) (fun q9 => by rw [ed126 (by omega)]; rcases ldHx_01 g0 with q8 | q8; (exact q8.2); (exfalso; omega))) ⟨rfl, rfl⟩ ⟨by decide, by decide⟩ ⟨by decide, by decide⟩ (tb_8 122 rfl rfl) (tb_1 12 rfl rfl) (tb_8 119 rfl rfl) (tb_8 121 rfl rfl) (tb_0 53 rfl rfl) (show yX12_lookAtTime.cls ≠ "java/lang/invoke/MethodHandle" ∧ yX12_lookAtTime.cls ≠ "java/lang/invoke/VarHandle" ∧ (parseMethodDescriptor yX12_lookAtTime.desc).map (fun d => d.parameters.length) = some 0 by decide +kernel) zs_blind (zs_ob hh126 ha (show RTg[11]? = some (0, 11, 0, fsX12) from rfl) (zCX12 hKn.1)) (fun U hU hW => ⟨rfl, by rw [hU]; exact hh126.l0, zKb s U hW.alike hKn, by rw [hU]; exact ⟨jv126, jg126, jr126, fd126, fh126⟩⟩) hh126.2.2.1 hl100.1 (Nat.le_of_ble_eq_true rfl) (eX12_read (325, .invokevirtual 439, 3) (List.mem_of_getElem? (i := 144) rfl)) (fun r127 s127 t127 lo127 g127 f127 l127 => ?_)
              obtain ⟨q127, z127, c127, jv127, jg127, jr127⟩ := f127
              cases q127
              rw [g127] at c127
              have hh127 : zh_ok D cA RTg ro sz H0 t127.heap lo127 := ⟨z127.1, z127.2.1, l127, z127.2.2.2⟩
              have kp127 := kp126.trans (c127.mono (ms' := rdK) (by decide))
              generalize hx127 : ((x126.1, x126.2.1, ltB L g0 (ldHx g0) dv126.toInt x126.2.2) : uS) = x127 at jv127
              have g0127 := (c127.1 a 11 0 11 0 fsX12 ha rfl (by decide) (by decide)).trans g0126
              refine W.eq (g2 := F0 m 328 ls100 []) rfl ?_
              have hlk1 : lkB L g0 gj.2.2 = x127.2.2 := by unfold lkB; rw [if_neg h041, ← hx127, ← hx126]; exact (ltB_dy (fun q9 => ed126 (by omega))).symm
              refine lv_aload_n hx hb (eX12_read (328, .aload_n 0, 1) (List.mem_of_getElem? (i := 145) rfl)) rfl (lv_at hl100 2 rfl) ?_
              refine lv_dup hx hb (eX12_read (329, .dup, 1) (List.mem_of_getElem? (i := 146) rfl)) rfl ?_
              obtain ⟨-, -, nw128, -, -, -, -, f36128, hnw128⟩ := id jg127
              refine tz_get (r := 11) (k := 36) (t := (0, 0, 3)) hx hb hh127 ha rfl rfl (hcl11 354 36 (0, 0, 3) (by decide) rfl).1 f36128 (eX12_read (330, .getfield 354, 3) (List.mem_of_getElem? (i := 147) rfl)) ?_
              refine ff_iconst hx hb (eX12_read (333, .iconst 1, 1) (List.mem_of_getElem? (i := 148) rfl)) (by decide) (by decide) (fun v129 e129 => ?_)
              refine ff_iadd hx hb (eX12_read (334, .iadd, 1) (List.mem_of_getElem? (i := 149) rfl)) (by omega) (by omega) (fun v130 e130 => ?_)
              refine tz_put (r := 11) (k := 36) (t := (0, 0, 3)) hx hb hD hh127 ha rfl rfl ((hcl11 354 36 (0, 0, 3) (by decide) rfl).2 (by decide)) (tz_i (by omega) (by omega)) (eX12_read (335, .putfield 354, 3) (List.mem_of_getElem? (i := 150) rfl)) (fun H131 lo131 hh131 hf131 hk131 _ hq131 => ?_)
              have kp131 := kp127.trans (hk131.mono (ms' := rdK) (fun x hx => by cases List.mem_singleton.mp hx; decide))
              have jv131 := jv127.kept ha hk131 (by decide)
              have g0131 := (hk131.1 a 11 0 11 0 fsX12 ha rfl (by decide) (by decide)).trans g0127
              have jr131 := jr127.kept ha hk131 (by decide)
              refine lv_goto hx hb (eX12_read (338, .goto (-39), 3) (List.mem_of_getElem? (i := 151) rfl)) (tgt := 299) rfl ?_
              refine lv_aload_n hx hb (eX12_read (299, .aload_n 0, 1) (List.mem_of_getElem? (i := 131) rfl)) rfl (lv_at hl100 2 rfl) ?_
              refine tz_get (r := 11) (k := 36) (t := (0, 0, 3)) hx hb hh131 ha rfl rfl (hcl11 354 36 (0, 0, 3) (by decide) rfl).1 hf131 (eX12_read (300, .getfield 354, 3) (List.mem_of_getElem? (i := 132) rfl)) ?_
              refine lv_iload hx hb (eX12_read (303, .iload 4, 2) (List.mem_of_getElem? (i := 133) rfl)) (lv_at hl100 0 rfl) ?_
              refine ff_icmp_ge hx hb (eX12_read (305, .if_icmp .ge 36, 3) (List.mem_of_getElem? (i := 134) rfl)) (tgt := 341) rfl (fun c132 => ?_) (fun c132 => (by exfalso; omega))
              refine lv_aload_n hx hb (eX12_read (341, .aload_n 0, 1) (List.mem_of_getElem? (i := 152) rfl)) rfl (lv_at hl100 2 rfl) ?_
              obtain ⟨jt133, ⟨av133, fv133, bv133, f29133, f30133, f31133, hav133, hfv133, hbv133⟩, hu133⟩ := id jv131
              refine tz_get (r := 11) (k := 31) (t := (0, (-2147483648), 2147483647)) hx hb hh131 ha rfl rfl (hcl11 299 31 (0, (-2147483648), 2147483647) (by decide) rfl).1 f31133 (eX12_read (342, .getfield 299, 3) (List.mem_of_getElem? (i := 153) rfl)) ?_
              refine ff_sipush hx hb (eX12_read (345, .sipush 1000, 3) (List.mem_of_getElem? (i := 154) rfl)) (by decide) (by decide) (fun v134 e134 => ?_)
              refine ff_icmp_ge hx hb (eX12_read (348, .if_icmp .ge 9, 3) (List.mem_of_getElem? (i := 155) rfl)) (tgt := 357) rfl (fun c135 => ?_) (fun c135 => ?_)
              · skip
                have hnone : rdG T L fo.toInt gz hz0 = NONEI := by rw [← htot]; unfold v2G; dsimp only; rw [hend, hlk0, hlk1]; unfold vfG; rw [if_neg (by omega), if_neg (by omega)]
                exact jn357 cv v99 ls100 _ _ hh131 kp131 g0131 (by omega) hnone (lv_sub hl100 [1, 0, 2] rfl)
              · skip
                refine lv_aload_n hx hb (eX12_read (351, .aload_n 0, 1) (List.mem_of_getElem? (i := 156) rfl)) rfl (lv_at hl100 2 rfl) ?_
                refine tz_get (r := 11) (k := 31) (t := (0, (-2147483648), 2147483647)) hx hb hh131 ha rfl rfl (hcl11 299 31 (0, (-2147483648), 2147483647) (by decide) rfl).1 f31133 (eX12_read (352, .getfield 299, 3) (List.mem_of_getElem? (i := 157) rfl)) ?_
                refine ff_i2l hx hb (eX12_read (355, .i2l, 1) (List.mem_of_getElem? (i := 158) rfl)) (fun v136 e136 => ?_)
                have hvd : v136.toInt = rdG T L fo.toInt gz hz0 := by rw [← htot]; unfold v2G; dsimp only; rw [hend, hlk0, hlk1]; unfold vfG; rw [if_neg (by omega), if_pos (by omega)]; omega
                exact W.lret hx hb hr (fun t ht hW => ⟨_, _, rfl, by rw [ht]; exact hh131.l0, by rw [ht]; exact kp131, by rw [ht]; exact g0131, Or.inr ⟨by omega, by omega, hvd.trans (rdG_any hL hT)⟩⟩) hh131.2.2.1 (eX12_read (356, .lreturn, 1) (List.mem_of_getElem? (i := 159) rfl))
          · skip
            have h040 : h0 0 ≠ 4 := by omega
            refine lv_aload_n hx hb (eX12_read (320, .aload_n 0, 1) (List.mem_of_getElem? (i := 141) rfl)) rfl (lv_at hl100 2 rfl) ?_
            refine tz_rowV (As := []) (st := []) (b := a) (C := RX12) (Ts := gT) hx hb hml hown h2 (fun _ h => h) (hX12_lookAtDate l D cA ro sz H0 a T (gj) 0 h0 g0 ha (by decide) hT (hgb.1 h040)) ⟨rfl, rfl⟩ ⟨by decide, by decide⟩ ⟨by decide, by decide⟩ (tb_8 117 rfl rfl) (tb_1 12 rfl rfl) (tb_8 114 rfl rfl) (tb_8 116 rfl rfl) (tb_0 52 rfl rfl) (show yX12_lookAtDate.cls ≠ "java/lang/invoke/MethodHandle" ∧ yX12_lookAtDate.cls ≠ "java/lang/invoke/VarHandle" ∧ (parseMethodDescriptor yX12_lookAtDate.desc).map (fun d => d.parameters.length) = some 0 by decide +kernel) zs_blind (zs_ob hh105 ha (show RTg[11]? = some (0, 11, 0, fsX12) from rfl) (zCX12 hKn.1)) (fun U hU hW => ⟨rfl, by rw [hU]; exact hh105.l0, zKb s U hW.alike hKn, by rw [hU]; exact ⟨jv102, jg102⟩⟩) hh105.2.2.1 hl100.1 (Nat.le_of_ble_eq_true rfl) (eX12_read (321, .invokevirtual 428, 3) (List.mem_of_getElem? (i := 142) rfl)) (fun r137 s137 t137 lo137 g137 f137 l137 => ?_)
            obtain ⟨q137, z137, c137, jv137, jg137, hv137, dv137, fh137, eh137, fd137, ed137⟩ := f137
            cases q137
            rw [g137] at c137
            have hh137 : zh_ok D cA RTg ro sz H0 t137.heap lo137 := ⟨z137.1, z137.2.1, l137, z137.2.2.2⟩
            have kp137 := kp102.trans (c137.mono (ms' := rdK) (by decide))
            generalize hx137 : ((gj.1, gj.2.1, ldb h0 gj.2.2) : uS) = x137 at jv137
            have g0137 := (c137.1 a 11 0 11 0 fsX12 ha rfl (by decide) (by decide)).trans g0102
            have jr137 := jr102.kept ha c137 (by decide)
            refine W.eq (g2 := F0 m 324 ls100 []) rfl ?_
            refine lv_aload_n hx hb (eX12_read (324, .aload_n 0, 1) (List.mem_of_getElem? (i := 143) rfl)) rfl (lv_at hl100 2 rfl) ?_
            refine tz_rowV (As := []) (st := []) (b := a) (C := RX12) (Ts := gT) hx hb hml hown h2 (fun _ h => h) (hX12_lookAtTime l D cA ro sz H0 a L (ldHx h0) dv137.toInt hv137 dv137 T (x137) 0 h0 g0 ha (by decide) hT (hgb.1 h040) eh137 rfl (by rcases ldHx_01 h0 with q9 | q9; (exact Or.inr q9.1); (exact Or.inl q9)) (fun q9 => by rw [ed137 (by omega)]; rcases ldHx_01 h0 with q8 | q8; (exact q8.2); (exfalso; omega))) ⟨rfl, rfl⟩ ⟨by decide, by decide⟩ ⟨by decide, by decide⟩ (tb_8 122 rfl rfl) (tb_1 12 rfl rfl) (tb_8 119 rfl rfl) (tb_8 121 rfl rfl) (tb_0 53 rfl rfl) (show yX12_lookAtTime.cls ≠ "java/lang/invoke/MethodHandle" ∧ yX12_lookAtTime.cls ≠ "java/lang/invoke/VarHandle" ∧ (parseMethodDescriptor yX12_lookAtTime.desc).map (fun d => d.parameters.length) = some 0 by decide +kernel) zs_blind (zs_ob hh137 ha (show RTg[11]? = some (0, 11, 0, fsX12) from rfl) (zCX12 hKn.1)) (fun U hU hW => ⟨rfl, by rw [hU]; exact hh137.l0, zKb s U hW.alike hKn, by rw [hU]; exact ⟨jv137, jg137, jr137, fd137, fh137⟩⟩) hh137.2.2.1 hl100.1 (Nat.le_of_ble_eq_true rfl) (eX12_read (325, .invokevirtual 439, 3) (List.mem_of_getElem? (i := 144) rfl)) (fun r138 s138 t138 lo138 g138 f138 l138 => ?_)
            obtain ⟨q138, z138, c138, jv138, jg138, jr138⟩ := f138
            cases q138
            rw [g138] at c138
            have hh138 : zh_ok D cA RTg ro sz H0 t138.heap lo138 := ⟨z138.1, z138.2.1, l138, z138.2.2.2⟩
            have kp138 := kp137.trans (c138.mono (ms' := rdK) (by decide))
            generalize hx138 : ((x137.1, x137.2.1, ltB L h0 (ldHx h0) dv137.toInt x137.2.2) : uS) = x138 at jv138
            have g0138 := (c138.1 a 11 0 11 0 fsX12 ha rfl (by decide) (by decide)).trans g0137
            refine W.eq (g2 := F0 m 328 ls100 []) rfl ?_
            have hlk0 : lkB L h0 gj.2.2 = x138.2.2 := by unfold lkB; rw [if_neg h040, ← hx138, ← hx137]; exact (ltB_dy (fun q9 => ed137 (by omega))).symm
            refine lv_aload_n hx hb (eX12_read (328, .aload_n 0, 1) (List.mem_of_getElem? (i := 145) rfl)) rfl (lv_at hl100 2 rfl) ?_
            refine lv_dup hx hb (eX12_read (329, .dup, 1) (List.mem_of_getElem? (i := 146) rfl)) rfl ?_
            obtain ⟨-, -, nw139, -, -, -, -, f36139, hnw139⟩ := id jg138
            refine tz_get (r := 11) (k := 36) (t := (0, 0, 3)) hx hb hh138 ha rfl rfl (hcl11 354 36 (0, 0, 3) (by decide) rfl).1 f36139 (eX12_read (330, .getfield 354, 3) (List.mem_of_getElem? (i := 147) rfl)) ?_
            refine ff_iconst hx hb (eX12_read (333, .iconst 1, 1) (List.mem_of_getElem? (i := 148) rfl)) (by decide) (by decide) (fun v140 e140 => ?_)
            refine ff_iadd hx hb (eX12_read (334, .iadd, 1) (List.mem_of_getElem? (i := 149) rfl)) (by omega) (by omega) (fun v141 e141 => ?_)
            refine tz_put (r := 11) (k := 36) (t := (0, 0, 3)) hx hb hD hh138 ha rfl rfl ((hcl11 354 36 (0, 0, 3) (by decide) rfl).2 (by decide)) (tz_i (by omega) (by omega)) (eX12_read (335, .putfield 354, 3) (List.mem_of_getElem? (i := 150) rfl)) (fun H142 lo142 hh142 hf142 hk142 _ hq142 => ?_)
            have kp142 := kp138.trans (hk142.mono (ms' := rdK) (fun x hx => by cases List.mem_singleton.mp hx; decide))
            have jv142 := jv138.kept ha hk142 (by decide)
            have jg142 := jG.now01 ha hk142 hf142 (by omega) jg138
            have g0142 := (hk142.1 a 11 0 11 0 fsX12 ha rfl (by decide) (by decide)).trans g0138
            have jr142 := jr138.kept ha hk142 (by decide)
            refine lv_goto hx hb (eX12_read (338, .goto (-39), 3) (List.mem_of_getElem? (i := 151) rfl)) (tgt := 299) rfl ?_
            refine lv_aload_n hx hb (eX12_read (299, .aload_n 0, 1) (List.mem_of_getElem? (i := 131) rfl)) rfl (lv_at hl100 2 rfl) ?_
            refine tz_get (r := 11) (k := 36) (t := (0, 0, 3)) hx hb hh142 ha rfl rfl (hcl11 354 36 (0, 0, 3) (by decide) rfl).1 hf142 (eX12_read (300, .getfield 354, 3) (List.mem_of_getElem? (i := 132) rfl)) ?_
            refine lv_iload hx hb (eX12_read (303, .iload 4, 2) (List.mem_of_getElem? (i := 133) rfl)) (lv_at hl100 0 rfl) ?_
            refine ff_icmp_ge hx hb (eX12_read (305, .if_icmp .ge 36, 3) (List.mem_of_getElem? (i := 134) rfl)) (tgt := 341) rfl (fun c143 => (by exfalso; omega)) (fun c143 => ?_)
            refine lv_aload_n hx hb (eX12_read (308, .aload_n 0, 1) (List.mem_of_getElem? (i := 135) rfl)) rfl (lv_at hl100 2 rfl) ?_
            refine ff_iconst hx hb (eX12_read (309, .iconst 0, 1) (List.mem_of_getElem? (i := 136) rfl)) (by decide) (by decide) (fun v144 e144 => ?_)
            refine tz_rowV (As := [.int v144]) (st := []) (b := a) (C := RX12) (Ts := gT) hx hb hml hown h2 (fun _ h => h) (hX12_get l D cA ro sz H0 a v144 0 1 g0 h0 ha (by decide) (by omega) (by decide)) ⟨rfl, rfl⟩ ⟨by decide, by decide⟩ ⟨by decide, by decide⟩ (tb_8 94 rfl rfl) (tb_1 12 rfl rfl) (tb_8 91 rfl rfl) (tb_8 93 rfl rfl) (tb_0 47 rfl rfl) (show yX12_get.cls ≠ "java/lang/invoke/MethodHandle" ∧ yX12_get.cls ≠ "java/lang/invoke/VarHandle" ∧ (parseMethodDescriptor yX12_get.desc).map (fun d => d.parameters.length) = some 1 by decide +kernel) zs_blind (zs_ob hh142 ha (show RTg[11]? = some (0, 11, 0, fsX12) from rfl) (zCX12 hKn.1)) (fun U hU hW => ⟨rfl, by rw [hU]; exact hh142.l0, zKb s U hW.alike hKn, by rw [hU]; exact jg142⟩) hh142.2.2.1 hl100.1 (Nat.le_of_ble_eq_true rfl) (eX12_read (310, .invokevirtual 361, 3) (List.mem_of_getElem? (i := 137) rfl)) (fun r145 s145 t145 lo145 g145 f145 l145 => ?_)
            obtain ⟨z145, v145, q145, e145⟩ := f145
            cases q145
            rw [z145, g145]
            have hh145 : zh_ok D cA RTg ro sz H0 H142 lo145 := ⟨hh142.1, hh142.2.1, l145, hh142.2.2.2⟩
            refine W.eq (g2 := F0 m 313 ls100 [.long v145]) rfl ?_
            refine ff_ldc2 (n := 4) hx hb hown h2 (clX12_ok 89 4 (List.mem_of_getElem? (i := 3) rfl)) (eX12_read (313, .ldc2_w 89, 3) (List.mem_of_getElem? (i := 138) rfl)) (fun v146 e146 => ?_)
            refine ff_lcmp hx hb (eX12_read (316, .lcmp, 1) (List.mem_of_getElem? (i := 139) rfl)) (fun v147 e147 => ?_)
            refine ff_if_eq hx hb (eX12_read (317, .ifCond .eq 11, 3) (List.mem_of_getElem? (i := 140) rfl)) (tgt := 328) rfl (fun c148 => ?_) (fun c148 => ?_)
            · skip
              have hlk1 : lkB L g0 x138.2.2 = x138.2.2 := by unfold lkB; rw [if_pos (by omega)]
              refine lv_aload_n hx hb (eX12_read (328, .aload_n 0, 1) (List.mem_of_getElem? (i := 145) rfl)) rfl (lv_at hl100 2 rfl) ?_
              refine lv_dup hx hb (eX12_read (329, .dup, 1) (List.mem_of_getElem? (i := 146) rfl)) rfl ?_
              refine tz_get (r := 11) (k := 36) (t := (0, 0, 3)) hx hb hh145 ha rfl rfl (hcl11 354 36 (0, 0, 3) (by decide) rfl).1 hf142 (eX12_read (330, .getfield 354, 3) (List.mem_of_getElem? (i := 147) rfl)) ?_
              refine ff_iconst hx hb (eX12_read (333, .iconst 1, 1) (List.mem_of_getElem? (i := 148) rfl)) (by decide) (by decide) (fun v149 e149 => ?_)
              refine ff_iadd hx hb (eX12_read (334, .iadd, 1) (List.mem_of_getElem? (i := 149) rfl)) (by omega) (by omega) (fun v150 e150 => ?_)
              refine tz_put (r := 11) (k := 36) (t := (0, 0, 3)) hx hb hD hh145 ha rfl rfl ((hcl11 354 36 (0, 0, 3) (by decide) rfl).2 (by decide)) (tz_i (by omega) (by omega)) (eX12_read (335, .putfield 354, 3) (List.mem_of_getElem? (i := 150) rfl)) (fun H151 lo151 hh151 hf151 hk151 _ hq151 => ?_)
              have kp151 := kp142.trans (hk151.mono (ms' := rdK) (fun x hx => by cases List.mem_singleton.mp hx; decide))
              have jv151 := jv142.kept ha hk151 (by decide)
              have g0151 := (hk151.1 a 11 0 11 0 fsX12 ha rfl (by decide) (by decide)).trans g0142
              have jr151 := jr142.kept ha hk151 (by decide)
              refine lv_goto hx hb (eX12_read (338, .goto (-39), 3) (List.mem_of_getElem? (i := 151) rfl)) (tgt := 299) rfl ?_
              refine lv_aload_n hx hb (eX12_read (299, .aload_n 0, 1) (List.mem_of_getElem? (i := 131) rfl)) rfl (lv_at hl100 2 rfl) ?_
              refine tz_get (r := 11) (k := 36) (t := (0, 0, 3)) hx hb hh151 ha rfl rfl (hcl11 354 36 (0, 0, 3) (by decide) rfl).1 hf151 (eX12_read (300, .getfield 354, 3) (List.mem_of_getElem? (i := 132) rfl)) ?_
              refine lv_iload hx hb (eX12_read (303, .iload 4, 2) (List.mem_of_getElem? (i := 133) rfl)) (lv_at hl100 0 rfl) ?_
              refine ff_icmp_ge hx hb (eX12_read (305, .if_icmp .ge 36, 3) (List.mem_of_getElem? (i := 134) rfl)) (tgt := 341) rfl (fun c152 => ?_) (fun c152 => (by exfalso; omega))
              refine lv_aload_n hx hb (eX12_read (341, .aload_n 0, 1) (List.mem_of_getElem? (i := 152) rfl)) rfl (lv_at hl100 2 rfl) ?_
              obtain ⟨jt153, ⟨av153, fv153, bv153, f29153, f30153, f31153, hav153, hfv153, hbv153⟩, hu153⟩ := id jv151
              refine tz_get (r := 11) (k := 31) (t := (0, (-2147483648), 2147483647)) hx hb hh151 ha rfl rfl (hcl11 299 31 (0, (-2147483648), 2147483647) (by decide) rfl).1 f31153 (eX12_read (342, .getfield 299, 3) (List.mem_of_getElem? (i := 153) rfl)) ?_
              refine ff_sipush hx hb (eX12_read (345, .sipush 1000, 3) (List.mem_of_getElem? (i := 154) rfl)) (by decide) (by decide) (fun v154 e154 => ?_)
              refine ff_icmp_ge hx hb (eX12_read (348, .if_icmp .ge 9, 3) (List.mem_of_getElem? (i := 155) rfl)) (tgt := 357) rfl (fun c155 => ?_) (fun c155 => ?_)
              · skip
                have hnone : rdG T L fo.toInt gz hz0 = NONEI := by rw [← htot]; unfold v2G; dsimp only; rw [hend, hlk0, hlk1]; unfold vfG; rw [if_neg (by omega), if_neg (by omega)]
                exact jn357 cv v99 ls100 _ _ hh151 kp151 g0151 (by omega) hnone (lv_sub hl100 [1, 0, 2] rfl)
              · skip
                refine lv_aload_n hx hb (eX12_read (351, .aload_n 0, 1) (List.mem_of_getElem? (i := 156) rfl)) rfl (lv_at hl100 2 rfl) ?_
                refine tz_get (r := 11) (k := 31) (t := (0, (-2147483648), 2147483647)) hx hb hh151 ha rfl rfl (hcl11 299 31 (0, (-2147483648), 2147483647) (by decide) rfl).1 f31153 (eX12_read (352, .getfield 299, 3) (List.mem_of_getElem? (i := 157) rfl)) ?_
                refine ff_i2l hx hb (eX12_read (355, .i2l, 1) (List.mem_of_getElem? (i := 158) rfl)) (fun v156 e156 => ?_)
                have hvd : v156.toInt = rdG T L fo.toInt gz hz0 := by rw [← htot]; unfold v2G; dsimp only; rw [hend, hlk0, hlk1]; unfold vfG; rw [if_neg (by omega), if_pos (by omega)]; omega
                exact W.lret hx hb hr (fun t ht hW => ⟨_, _, rfl, by rw [ht]; exact hh151.l0, by rw [ht]; exact kp151, by rw [ht]; exact g0151, Or.inr ⟨by omega, by omega, hvd.trans (rdG_any hL hT)⟩⟩) hh151.2.2.1 (eX12_read (356, .lreturn, 1) (List.mem_of_getElem? (i := 159) rfl))
            · skip
              have h041 : g0 0 ≠ 4 := by omega
              refine lv_aload_n hx hb (eX12_read (320, .aload_n 0, 1) (List.mem_of_getElem? (i := 141) rfl)) rfl (lv_at hl100 2 rfl) ?_
              refine tz_rowV (As := []) (st := []) (b := a) (C := RX12) (Ts := gT) hx hb hml hown h2 (fun _ h => h) (hX12_lookAtDate l D cA ro sz H0 a T (x138) 1 g0 h0 ha (by decide) hT (hgb.2 h041)) ⟨rfl, rfl⟩ ⟨by decide, by decide⟩ ⟨by decide, by decide⟩ (tb_8 117 rfl rfl) (tb_1 12 rfl rfl) (tb_8 114 rfl rfl) (tb_8 116 rfl rfl) (tb_0 52 rfl rfl) (show yX12_lookAtDate.cls ≠ "java/lang/invoke/MethodHandle" ∧ yX12_lookAtDate.cls ≠ "java/lang/invoke/VarHandle" ∧ (parseMethodDescriptor yX12_lookAtDate.desc).map (fun d => d.parameters.length) = some 0 by decide +kernel) zs_blind (zs_ob hh145 ha (show RTg[11]? = some (0, 11, 0, fsX12) from rfl) (zCX12 hKn.1)) (fun U hU hW => ⟨rfl, by rw [hU]; exact hh145.l0, zKb s U hW.alike hKn, by rw [hU]; exact ⟨jv142, jg142⟩⟩) hh145.2.2.1 hl100.1 (Nat.le_of_ble_eq_true rfl) (eX12_read (321, .invokevirtual 428, 3) (List.mem_of_getElem? (i := 142) rfl)) (fun r157 s157 t157 lo157 g157 f157 l157 => ?_)
              obtain ⟨q157, z157, c157, jv157, jg157, hv157, dv157, fh157, eh157, fd157, ed157⟩ := f157
              cases q157
              rw [g157] at c157
              have hh157 : zh_ok D cA RTg ro sz H0 t157.heap lo157 := ⟨z157.1, z157.2.1, l157, z157.2.2.2⟩
              have kp157 := kp142.trans (c157.mono (ms' := rdK) (by decide))
              generalize hx157 : ((x138.1, x138.2.1, ldb g0 x138.2.2) : uS) = x157 at jv157
              have g0157 := (c157.1 a 11 0 11 0 fsX12 ha rfl (by decide) (by decide)).trans g0142
              have jr157 := jr142.kept ha c157 (by decide)
              refine W.eq (g2 := F0 m 324 ls100 []) rfl ?_
              refine lv_aload_n hx hb (eX12_read (324, .aload_n 0, 1) (List.mem_of_getElem? (i := 143) rfl)) rfl (lv_at hl100 2 rfl) ?_
              refine tz_rowV (As := []) (st := []) (b := a) (C := RX12) (Ts := gT) hx hb hml hown h2 (fun _ h => h) (hX12_lookAtTime l D cA ro sz H0 a L (ldHx g0) dv157.toInt hv157 dv157 T (x157) 1 g0 h0 ha (by decide) hT (hgb.2 h041) eh157 rfl (by rcases ldHx_01 g0 with q9 | q9; (exact Or.inr q9.1); (exact Or.inl q9)) (fun q9 => by rw [ed157 (by omega)]; rcases ldHx_01 g0 with q8 | q8; (exact q8.2); (exfalso; omega))) ⟨rfl, rfl⟩ ⟨by decide, by decide⟩ ⟨by decide, by decide⟩ (tb_8 122 rfl rfl) (tb_1 12 rfl rfl) (tb_8 119 rfl rfl) (tb_8 121 rfl rfl) (tb_0 53 rfl rfl) (show yX12_lookAtTime.cls ≠ "java/lang/invoke/MethodHandle" ∧ yX12_lookAtTime.cls ≠ "java/lang/invoke/VarHandle" ∧ (parseMethodDescriptor yX12_lookAtTime.desc).map (fun d => d.parameters.length) = some 0 by decide +kernel) zs_blind (zs_ob hh157 ha (show RTg[11]? = some (0, 11, 0, fsX12) from rfl) (zCX12 hKn.1)) (fun U hU hW => ⟨rfl, by rw [hU]; exact hh157.l0, zKb s U hW.alike hKn, by rw [hU]; exact ⟨jv157, jg157, jr157, fd157, fh157⟩⟩) hh157.2.2.1 hl100.1 (Nat.le_of_ble_eq_true rfl) (eX12_read (325, .invokevirtual 439, 3) (List.mem_of_getElem? (i := 144) rfl)) (fun r158 s158 t158 lo158 g158 f158 l158 => ?_)
              obtain ⟨q158, z158, c158, jv158, jg158, jr158⟩ := f158
              cases q158
              rw [g158] at c158
              have hh158 : zh_ok D cA RTg ro sz H0 t158.heap lo158 := ⟨z158.1, z158.2.1, l158, z158.2.2.2⟩
              have kp158 := kp157.trans (c158.mono (ms' := rdK) (by decide))
              generalize hx158 : ((x157.1, x157.2.1, ltB L g0 (ldHx g0) dv157.toInt x157.2.2) : uS) = x158 at jv158
              have g0158 := (c158.1 a 11 0 11 0 fsX12 ha rfl (by decide) (by decide)).trans g0157
              refine W.eq (g2 := F0 m 328 ls100 []) rfl ?_
              have hlk1 : lkB L g0 x138.2.2 = x158.2.2 := by unfold lkB; rw [if_neg h041, ← hx158, ← hx157]; exact (ltB_dy (fun q9 => ed157 (by omega))).symm
              refine lv_aload_n hx hb (eX12_read (328, .aload_n 0, 1) (List.mem_of_getElem? (i := 145) rfl)) rfl (lv_at hl100 2 rfl) ?_
              refine lv_dup hx hb (eX12_read (329, .dup, 1) (List.mem_of_getElem? (i := 146) rfl)) rfl ?_
              obtain ⟨-, -, nw159, -, -, -, -, f36159, hnw159⟩ := id jg158
              refine tz_get (r := 11) (k := 36) (t := (0, 0, 3)) hx hb hh158 ha rfl rfl (hcl11 354 36 (0, 0, 3) (by decide) rfl).1 f36159 (eX12_read (330, .getfield 354, 3) (List.mem_of_getElem? (i := 147) rfl)) ?_
              refine ff_iconst hx hb (eX12_read (333, .iconst 1, 1) (List.mem_of_getElem? (i := 148) rfl)) (by decide) (by decide) (fun v160 e160 => ?_)
              refine ff_iadd hx hb (eX12_read (334, .iadd, 1) (List.mem_of_getElem? (i := 149) rfl)) (by omega) (by omega) (fun v161 e161 => ?_)
              refine tz_put (r := 11) (k := 36) (t := (0, 0, 3)) hx hb hD hh158 ha rfl rfl ((hcl11 354 36 (0, 0, 3) (by decide) rfl).2 (by decide)) (tz_i (by omega) (by omega)) (eX12_read (335, .putfield 354, 3) (List.mem_of_getElem? (i := 150) rfl)) (fun H162 lo162 hh162 hf162 hk162 _ hq162 => ?_)
              have kp162 := kp158.trans (hk162.mono (ms' := rdK) (fun x hx => by cases List.mem_singleton.mp hx; decide))
              have jv162 := jv158.kept ha hk162 (by decide)
              have g0162 := (hk162.1 a 11 0 11 0 fsX12 ha rfl (by decide) (by decide)).trans g0158
              have jr162 := jr158.kept ha hk162 (by decide)
              refine lv_goto hx hb (eX12_read (338, .goto (-39), 3) (List.mem_of_getElem? (i := 151) rfl)) (tgt := 299) rfl ?_
              refine lv_aload_n hx hb (eX12_read (299, .aload_n 0, 1) (List.mem_of_getElem? (i := 131) rfl)) rfl (lv_at hl100 2 rfl) ?_
              refine tz_get (r := 11) (k := 36) (t := (0, 0, 3)) hx hb hh162 ha rfl rfl (hcl11 354 36 (0, 0, 3) (by decide) rfl).1 hf162 (eX12_read (300, .getfield 354, 3) (List.mem_of_getElem? (i := 132) rfl)) ?_
              refine lv_iload hx hb (eX12_read (303, .iload 4, 2) (List.mem_of_getElem? (i := 133) rfl)) (lv_at hl100 0 rfl) ?_
              refine ff_icmp_ge hx hb (eX12_read (305, .if_icmp .ge 36, 3) (List.mem_of_getElem? (i := 134) rfl)) (tgt := 341) rfl (fun c163 => ?_) (fun c163 => (by exfalso; omega))
              refine lv_aload_n hx hb (eX12_read (341, .aload_n 0, 1) (List.mem_of_getElem? (i := 152) rfl)) rfl (lv_at hl100 2 rfl) ?_
              obtain ⟨jt164, ⟨av164, fv164, bv164, f29164, f30164, f31164, hav164, hfv164, hbv164⟩, hu164⟩ := id jv162
              refine tz_get (r := 11) (k := 31) (t := (0, (-2147483648), 2147483647)) hx hb hh162 ha rfl rfl (hcl11 299 31 (0, (-2147483648), 2147483647) (by decide) rfl).1 f31164 (eX12_read (342, .getfield 299, 3) (List.mem_of_getElem? (i := 153) rfl)) ?_
              refine ff_sipush hx hb (eX12_read (345, .sipush 1000, 3) (List.mem_of_getElem? (i := 154) rfl)) (by decide) (by decide) (fun v165 e165 => ?_)
              refine ff_icmp_ge hx hb (eX12_read (348, .if_icmp .ge 9, 3) (List.mem_of_getElem? (i := 155) rfl)) (tgt := 357) rfl (fun c166 => ?_) (fun c166 => ?_)
              · skip
                have hnone : rdG T L fo.toInt gz hz0 = NONEI := by rw [← htot]; unfold v2G; dsimp only; rw [hend, hlk0, hlk1]; unfold vfG; rw [if_neg (by omega), if_neg (by omega)]
                exact jn357 cv v99 ls100 _ _ hh162 kp162 g0162 (by omega) hnone (lv_sub hl100 [1, 0, 2] rfl)
              · skip
                refine lv_aload_n hx hb (eX12_read (351, .aload_n 0, 1) (List.mem_of_getElem? (i := 156) rfl)) rfl (lv_at hl100 2 rfl) ?_
                refine tz_get (r := 11) (k := 31) (t := (0, (-2147483648), 2147483647)) hx hb hh162 ha rfl rfl (hcl11 299 31 (0, (-2147483648), 2147483647) (by decide) rfl).1 f31164 (eX12_read (352, .getfield 299, 3) (List.mem_of_getElem? (i := 157) rfl)) ?_
                refine ff_i2l hx hb (eX12_read (355, .i2l, 1) (List.mem_of_getElem? (i := 158) rfl)) (fun v167 e167 => ?_)
                have hvd : v167.toInt = rdG T L fo.toInt gz hz0 := by rw [← htot]; unfold v2G; dsimp only; rw [hend, hlk0, hlk1]; unfold vfG; rw [if_neg (by omega), if_pos (by omega)]; omega
                exact W.lret hx hb hr (fun t ht hW => ⟨_, _, rfl, by rw [ht]; exact hh162.l0, by rw [ht]; exact kp162, by rw [ht]; exact g0162, Or.inr ⟨by omega, by omega, hvd.trans (rdG_any hL hT)⟩⟩) hh162.2.2.1 (eX12_read (356, .lreturn, 1) (List.mem_of_getElem? (i := 159) rfl))
        · skip
          have hend : endG T gj = flG gj := by unfold endG; rw [if_pos (by omega)]
          refine lv_aload_n hx hb (eX12_read (265, .aload_n 0, 1) (List.mem_of_getElem? (i := 112) rfl)) rfl (lv_at hl 1 rfl) ?_
          refine tz_rowV (As := []) (st := []) (b := a) (C := RX12) (Ts := gT) hx hb hml hown h2 (fun _ h => h) (hX12_fail l D cA ro sz H0 a T (gj) ha) ⟨rfl, rfl⟩ ⟨by decide, by decide⟩ ⟨by decide, by decide⟩ (tb_8 31 rfl rfl) (tb_1 12 rfl rfl) (tb_8 28 rfl rfl) (tb_8 30 rfl rfl) (tb_0 33 rfl rfl) (show yX12_fail.cls ≠ "java/lang/invoke/MethodHandle" ∧ yX12_fail.cls ≠ "java/lang/invoke/VarHandle" ∧ (parseMethodDescriptor yX12_fail.desc).map (fun d => d.parameters.length) = some 0 by decide +kernel) zs_blind (zs_ob hh88 ha (show RTg[11]? = some (0, 11, 0, fsX12) from rfl) (zCX12 hKn.1)) (fun U hU hW => ⟨rfl, by rw [hU]; exact hh88.l0, zKb s U hW.alike hKn, by rw [hU]; exact jl⟩) hh88.2.2.1 hl.1 (Nat.le_of_ble_eq_true rfl) (eX12_read (266, .invokevirtual 316, 3) (List.mem_of_getElem? (i := 113) rfl)) (fun r168 s168 t168 lo168 g168 f168 l168 => ?_)
          obtain ⟨q168, z168, c168, jv168⟩ := f168
          cases q168
          rw [g168] at c168
          have hh168 : zh_ok D cA RTg ro sz H0 t168.heap lo168 := ⟨z168.1, z168.2.1, l168, z168.2.2.2⟩
          have kp168 := kpl.trans (c168.mono (ms' := rdK) (by decide))
          generalize hx168 : flG gj = x168 at jv168
          have uu168 := jv168.2.2
          unfold vOK at uu168
          have bb168 := byI_bd T x168.1
          have jg168 := jgl.kept ha c168 (by decide)
          have g0168 := (c168.1 a 11 0 11 0 fsX12 ha rfl (by decide) (by decide)).trans fw
          have jr168 := jrl.kept ha c168 (by decide)
          refine W.eq (g2 := F0 m 269 ls []) rfl ?_
          rw [hx168] at hend
          have hfn := flG_nn (T := T) (r := gj) jl.2.2
          rw [hx168] at hfn
          refine lv_aload_n hx hb (eX12_read (269, .aload_n 0, 1) (List.mem_of_getElem? (i := 114) rfl)) rfl (lv_at hl 1 rfl) ?_
          obtain ⟨jt169, ⟨av169, fv169, bv169, f29169, f30169, f31169, hav169, hfv169, hbv169⟩, hu169⟩ := id jv168
          refine tz_get (r := 11) (k := 30) (t := (0, (-1), 120)) hx hb hh168 ha rfl rfl (hcl11 296 30 (0, (-1), 120) (by decide) rfl).1 f30169 (eX12_read (270, .getfield 296, 3) (List.mem_of_getElem? (i := 115) rfl)) ?_
          refine ff_if_lt hx hb (eX12_read (273, .ifCond .lt 9, 3) (List.mem_of_getElem? (i := 116) rfl)) (tgt := 282) rfl (fun c170 => (by exfalso; omega)) (fun c170 => ?_)
          refine lv_aload_n hx hb (eX12_read (276, .aload_n 0, 1) (List.mem_of_getElem? (i := 117) rfl)) rfl (lv_at hl 1 rfl) ?_
          refine tz_get (r := 11) (k := 30) (t := (0, (-1), 120)) hx hb hh168 ha rfl rfl (hcl11 296 30 (0, (-1), 120) (by decide) rfl).1 f30169 (eX12_read (277, .getfield 296, 3) (List.mem_of_getElem? (i := 118) rfl)) ?_
          refine ff_i2l hx hb (eX12_read (280, .i2l, 1) (List.mem_of_getElem? (i := 119) rfl)) (fun v171 e171 => ?_)
          have hvd : v171.toInt = rdG T L fo.toInt gz hz0 := by rw [← htot]; unfold v2G; dsimp only; rw [hend]; unfold vfG; rw [if_pos (by omega)]; omega
          exact W.lret hx hb hr (fun t ht hW => ⟨_, _, rfl, by rw [ht]; exact hh168.l0, by rw [ht]; exact kp168, by rw [ht]; exact g0168, Or.inr ⟨by omega, by omega, hvd.trans (rdG_any hL hT)⟩⟩) hh168.2.2.1 (eX12_read (281, .lreturn, 1) (List.mem_of_getElem? (i := 120) rfl))
    refine ff_ldc2 (n := (-9223372036854775808)) hx hb hown h2 (clX12_ok 83 (-9223372036854775808) (List.mem_of_getElem? (i := 2) rfl)) (eX12_read (39, .ldc2_w 83, 3) (List.mem_of_getElem? (i := 21) rfl)) (fun v172 e172 => ?_)
    refine lv_lstore_n hx hb (eX12_read (42, .lstore_n 2, 1) (List.mem_of_getElem? (i := 22) rfl)) rfl hl (by decide) rfl (fun ls173 hl173 => ?_)
    refine lv_iload_n hx hb (eX12_read (43, .iload_n 1, 1) (List.mem_of_getElem? (i := 23) rfl)) rfl (lv_at hl173 2 rfl) ?_
    have gl174 : ¬ fo.toInt < 0 ∨ fo.toInt < 0 := by omega
    by_cases gl : fo.toInt < 0
    · refine lv_tableOut hx hb (eX12_read (44, .tableswitch 102 0 5 #[40, 47, 60, 81, 88, 95], 40) (List.mem_of_getElem? (i := 24) rfl)) (Or.inl gl) (tgt := 146) rfl ?_
      refine lv_aload_n hx hb (eX12_read (146, .aload_n 0, 1) (List.mem_of_getElem? (i := 55) rfl)) rfl (lv_at hl173 1 rfl) ?_
      refine ff_bipush hx hb (eX12_read (147, .bipush 82, 2) (List.mem_of_getElem? (i := 56) rfl)) (by decide) (by decide) (fun v175 e175 => ?_)
      refine tz_rowV (As := [.int v175]) (st := []) (b := a) (C := RX12) (Ts := gT) hx hb hml hown h2 (fun _ h => h) (hX12_expect l D cA ro sz H0 a v175 82 T (r0S) ha (by omega) (by decide)) ⟨rfl, rfl⟩ ⟨by decide, by decide⟩ ⟨by decide, by decide⟩ (tb_8 35 rfl rfl) (tb_1 12 rfl rfl) (tb_8 32 rfl rfl) (tb_8 34 rfl rfl) (tb_0 34 rfl rfl) (show yX12_expect.cls ≠ "java/lang/invoke/MethodHandle" ∧ yX12_expect.cls ≠ "java/lang/invoke/VarHandle" ∧ (parseMethodDescriptor yX12_expect.desc).map (fun d => d.parameters.length) = some 1 by decide +kernel) zs_blind (zs_ob hh15 ha (show RTg[11]? = some (0, 11, 0, fsX12) from rfl) (zCX12 hKn.1)) (fun U hU hW => ⟨rfl, by rw [hU]; exact hh15.l0, zKb s U hW.alike hKn, by rw [hU]; exact jv15⟩) hh15.2.2.1 hl173.1 (Nat.le_of_ble_eq_true rfl) (eX12_read (149, .invokevirtual 325, 3) (List.mem_of_getElem? (i := 57) rfl)) (fun r176 s176 t176 lo176 g176 f176 l176 => ?_)
      obtain ⟨q176, z176, c176, jv176⟩ := f176
      cases q176
      rw [g176] at c176
      have hh176 : zh_ok D cA RTg ro sz H0 t176.heap lo176 := ⟨z176.1, z176.2.1, l176, z176.2.2.2⟩
      have kp176 := kp15.trans (c176.mono (ms' := rdK) (by decide))
      generalize hx176 : exG T 82 r0S = x176 at jv176
      have uu176 := jv176.2.2
      unfold vOK at uu176
      have bb176 := byI_bd T x176.1
      have jg176 := jg0.kept ha c176 (by decide)
      have g0176 := (c176.1 a 11 0 11 0 fsX12 ha rfl (by decide) (by decide)).trans g015
      have jr176 := jr15.kept ha c176 (by decide)
      refine W.eq (g2 := F0 m 152 ls173 []) rfl ?_
      refine ff_iconst hx hb (eX12_read (152, .iconst 0, 1) (List.mem_of_getElem? (i := 58) rfl)) (by decide) (by decide) (fun v177 e177 => ?_)
      refine lv_istore hx hb (eX12_read (153, .istore 5, 2) (List.mem_of_getElem? (i := 59) rfl)) hl173 (by decide) rfl (fun ls178 hl178 => ?_)
      refine ff_lconst hx hb (eX12_read (155, .lconst 0, 1) (List.mem_of_getElem? (i := 60) rfl)) rfl (fun v179 e179 => ?_)
      refine lv_lstore hx hb (eX12_read (156, .lstore 6, 2) (List.mem_of_getElem? (i := 61) rfl)) hl178 (by decide) rfl (fun ls180 hl180 => ?_)
      have jn216 : ∀ (gj : uS) (vv cv : Int64) (kv : Int32) (ls : Array Slot) (H : Heap) (lo0 : List Loc), zh_ok D cA RTg ro sz H0 H lo0 → zc_kept D RTg ro rdK s.heap H → jV D cA ro H a T gj → jG D cA ro H a 0 gz hz0 → jR D cA ro H a L → zh_f D H a 11 0 = .int v10 → gj = (if x176.2.1 < 0 then (dcL T 9 0 0 x176).2 else x176) → lv_has ls 8 [(6, .long vv), (5, .int kv), (2, .long cv), (0, .ref a), (1, .int fo)] → W p l e (headSpec (gW yX12_read cX12_read 8 (some .long)) { frames := 6, cells := 0, slots := 0, locals := 167 }).room s m ([.ref a, .int fo] : List Value).toArray below meth c H lo0 0 0 (MQ below (fun _ st oc t => ∃ (r : Int64) (w : Int32), oc = .returned (some (.long r)) ∧ zh_ok D cA RTg ro sz H0 t.heap [] ∧ zc_kept D RTg ro rdK st.heap t.heap ∧ zh_f D t.heap a 11 0 = .int w ∧ spRd fo.toInt T L w.toInt r.toInt) ([.ref a, .int fo] : List Value).toArray s 0 0 (zy_fr sz)) (F0 m 216 ls []) := by
        intro gj vv cv kv ls H lo0 hh0 kpl jl jgl jrl fw hrc hl
        have hul := jl.2.2
        unfold vOK at hul
        have hbj := byI_bd T gj.1
        refine lv_iload hx hb (eX12_read (216, .iload 5, 2) (List.mem_of_getElem? (i := 90) rfl)) (lv_at hl 1 rfl) ?_
        refine ff_if_le hx hb (eX12_read (218, .ifCond .le 8, 3) (List.mem_of_getElem? (i := 91) rfl)) (tgt := 226) rfl (fun c181 => ?_) (fun c181 => ?_)
        · skip
          refine ff_ldc2 (n := (-9223372036854775808)) hx hb hown h2 (clX12_ok 83 (-9223372036854775808) (List.mem_of_getElem? (i := 2) rfl)) (eX12_read (226, .ldc2_w 83, 3) (List.mem_of_getElem? (i := 94) rfl)) (fun v182 e182 => ?_)
          refine lv_lstore_n hx hb (eX12_read (229, .lstore_n 2, 1) (List.mem_of_getElem? (i := 95) rfl)) rfl hl (by decide) rfl (fun ls183 hl183 => ?_)
          refine lv_aload_n hx hb (eX12_read (230, .aload_n 0, 1) (List.mem_of_getElem? (i := 96) rfl)) rfl (lv_at hl183 3 rfl) ?_
          refine ff_bipush hx hb (eX12_read (231, .bipush 47, 2) (List.mem_of_getElem? (i := 97) rfl)) (by decide) (by decide) (fun v184 e184 => ?_)
          refine tz_rowV (As := [.int v184]) (st := []) (b := a) (C := RX12) (Ts := gT) hx hb hml hown h2 (fun _ h => h) (hX12_expect l D cA ro sz H0 a v184 47 T (gj) ha (by omega) (by decide)) ⟨rfl, rfl⟩ ⟨by decide, by decide⟩ ⟨by decide, by decide⟩ (tb_8 35 rfl rfl) (tb_1 12 rfl rfl) (tb_8 32 rfl rfl) (tb_8 34 rfl rfl) (tb_0 34 rfl rfl) (show yX12_expect.cls ≠ "java/lang/invoke/MethodHandle" ∧ yX12_expect.cls ≠ "java/lang/invoke/VarHandle" ∧ (parseMethodDescriptor yX12_expect.desc).map (fun d => d.parameters.length) = some 1 by decide +kernel) zs_blind (zs_ob hh0 ha (show RTg[11]? = some (0, 11, 0, fsX12) from rfl) (zCX12 hKn.1)) (fun U hU hW => ⟨rfl, by rw [hU]; exact hh0.l0, zKb s U hW.alike hKn, by rw [hU]; exact jl⟩) hh0.2.2.1 hl183.1 (Nat.le_of_ble_eq_true rfl) (eX12_read (233, .invokevirtual 325, 3) (List.mem_of_getElem? (i := 98) rfl)) (fun r185 s185 t185 lo185 g185 f185 l185 => ?_)
          obtain ⟨q185, z185, c185, jv185⟩ := f185
          cases q185
          rw [g185] at c185
          have hh185 : zh_ok D cA RTg ro sz H0 t185.heap lo185 := ⟨z185.1, z185.2.1, l185, z185.2.2.2⟩
          have kp185 := kpl.trans (c185.mono (ms' := rdK) (by decide))
          generalize hx185 : exG T 47 gj = x185 at jv185
          have uu185 := jv185.2.2
          unfold vOK at uu185
          have bb185 := byI_bd T x185.1
          have jg185 := jgl.kept ha c185 (by decide)
          have g0185 := (c185.1 a 11 0 11 0 fsX12 ha rfl (by decide) (by decide)).trans fw
          have jr185 := jrl.kept ha c185 (by decide)
          refine W.eq (g2 := F0 m 236 ls183 []) rfl ?_
          refine lv_aload_n hx hb (eX12_read (236, .aload_n 0, 1) (List.mem_of_getElem? (i := 99) rfl)) rfl (lv_at hl183 3 rfl) ?_
          refine tz_rowV (As := []) (st := []) (b := a) (C := RX12) (Ts := gT) hx hb hml hown h2 (fun _ h => h) (hX12_isGood l D cA ro sz H0 a T (x185) ha) ⟨rfl, rfl⟩ ⟨by decide, by decide⟩ ⟨by decide, by decide⟩ (tb_8 17 rfl rfl) (tb_1 12 rfl rfl) (tb_8 14 rfl rfl) (tb_8 16 rfl rfl) (tb_0 31 rfl rfl) (show yX12_isGood.cls ≠ "java/lang/invoke/MethodHandle" ∧ yX12_isGood.cls ≠ "java/lang/invoke/VarHandle" ∧ (parseMethodDescriptor yX12_isGood.desc).map (fun d => d.parameters.length) = some 0 by decide +kernel) zs_blind (zs_ob hh185 ha (show RTg[11]? = some (0, 11, 0, fsX12) from rfl) (zCX12 hKn.1)) (fun U hU hW => ⟨rfl, by rw [hU]; exact hh185.l0, zKb s U hW.alike hKn, by rw [hU]; exact jv185⟩) hh185.2.2.1 hl183.1 (Nat.le_of_ble_eq_true rfl) (eX12_read (237, .invokevirtual 305, 3) (List.mem_of_getElem? (i := 100) rfl)) (fun r186 s186 t186 lo186 g186 f186 l186 => ?_)
          obtain ⟨z186, v186, q186, e186⟩ := f186
          cases q186
          rw [z186, g186]
          have hh186 : zh_ok D cA RTg ro sz H0 t185.heap lo186 := ⟨hh185.1, hh185.2.1, l186, hh185.2.2.2⟩
          refine W.eq (g2 := F0 m 240 ls183 [.int v186]) rfl ?_
          refine ff_if_eq hx hb (eX12_read (240, .ifCond .eq 7, 3) (List.mem_of_getElem? (i := 101) rfl)) (tgt := 247) rfl (fun c187 => ?_) (fun c187 => ?_)
          · skip
            refine lv_aload_n hx hb (eX12_read (247, .aload_n 0, 1) (List.mem_of_getElem? (i := 104) rfl)) rfl (lv_at hl183 3 rfl) ?_
            refine tz_rowV (As := []) (st := []) (b := a) (C := RX12) (Ts := gT) hx hb hml hown h2 (fun _ h => h) (hX12_isGood l D cA ro sz H0 a T (x185) ha) ⟨rfl, rfl⟩ ⟨by decide, by decide⟩ ⟨by decide, by decide⟩ (tb_8 17 rfl rfl) (tb_1 12 rfl rfl) (tb_8 14 rfl rfl) (tb_8 16 rfl rfl) (tb_0 31 rfl rfl) (show yX12_isGood.cls ≠ "java/lang/invoke/MethodHandle" ∧ yX12_isGood.cls ≠ "java/lang/invoke/VarHandle" ∧ (parseMethodDescriptor yX12_isGood.desc).map (fun d => d.parameters.length) = some 0 by decide +kernel) zs_blind (zs_ob hh186 ha (show RTg[11]? = some (0, 11, 0, fsX12) from rfl) (zCX12 hKn.1)) (fun U hU hW => ⟨rfl, by rw [hU]; exact hh186.l0, zKb s U hW.alike hKn, by rw [hU]; exact jv185⟩) hh186.2.2.1 hl183.1 (Nat.le_of_ble_eq_true rfl) (eX12_read (248, .invokevirtual 305, 3) (List.mem_of_getElem? (i := 105) rfl)) (fun r188 s188 t188 lo188 g188 f188 l188 => ?_)
            obtain ⟨z188, v188, q188, e188⟩ := f188
            cases q188
            rw [z188, g188]
            have hh188 : zh_ok D cA RTg ro sz H0 t185.heap lo188 := ⟨hh186.1, hh186.2.1, l188, hh186.2.2.2⟩
            refine W.eq (g2 := F0 m 251 ls183 [.int v188]) rfl ?_
            refine ff_if_eq hx hb (eX12_read (251, .ifCond .eq 18, 3) (List.mem_of_getElem? (i := 106) rfl)) (tgt := 269) rfl (fun c189 => ?_) (fun c189 => (by exfalso; omega))
            refine lv_aload_n hx hb (eX12_read (269, .aload_n 0, 1) (List.mem_of_getElem? (i := 114) rfl)) rfl (lv_at hl183 3 rfl) ?_
            obtain ⟨jt190, ⟨av190, fv190, bv190, f29190, f30190, f31190, hav190, hfv190, hbv190⟩, hu190⟩ := id jv185
            refine tz_get (r := 11) (k := 30) (t := (0, (-1), 120)) hx hb hh188 ha rfl rfl (hcl11 296 30 (0, (-1), 120) (by decide) rfl).1 f30190 (eX12_read (270, .getfield 296, 3) (List.mem_of_getElem? (i := 115) rfl)) ?_
            refine ff_if_lt hx hb (eX12_read (273, .ifCond .lt 9, 3) (List.mem_of_getElem? (i := 116) rfl)) (tgt := 282) rfl (fun c191 => (by exfalso; omega)) (fun c191 => ?_)
            refine lv_aload_n hx hb (eX12_read (276, .aload_n 0, 1) (List.mem_of_getElem? (i := 117) rfl)) rfl (lv_at hl183 3 rfl) ?_
            refine tz_get (r := 11) (k := 30) (t := (0, (-1), 120)) hx hb hh188 ha rfl rfl (hcl11 296 30 (0, (-1), 120) (by decide) rfl).1 f30190 (eX12_read (277, .getfield 296, 3) (List.mem_of_getElem? (i := 118) rfl)) ?_
            refine ff_i2l hx hb (eX12_read (280, .i2l, 1) (List.mem_of_getElem? (i := 119) rfl)) (fun v192 e192 => ?_)
            have hrg : rcG T r0S = x185 := by unfold rcG; rw [hx176, ← hrc, hx185]
            have hvd : v192.toInt = rdG T L fo.toInt gz hz0 := by unfold rdG; rw [if_neg (show ¬ fo.toInt = 0 by omega), if_neg (show ¬ fo.toInt = 1 by omega), if_neg (show ¬ fo.toInt = 2 by omega), if_neg (show ¬ fo.toInt = 3 by omega), if_neg (show ¬ fo.toInt = 4 by omega), if_neg (show ¬ fo.toInt = 5 by omega), hrg, if_neg (by omega)]; unfold v2G; dsimp only; rw [show endG T x185 = x185 from by unfold endG; rw [if_neg (by omega)]]; unfold vfG; rw [if_pos (by omega)]; omega
            exact W.lret hx hb hr (fun t ht hW => ⟨_, _, rfl, by rw [ht]; exact hh188.l0, by rw [ht]; exact kp185, by rw [ht]; exact g0185, Or.inr ⟨by omega, by omega, hvd.trans (rdG_any hL hT)⟩⟩) hh188.2.2.1 (eX12_read (281, .lreturn, 1) (List.mem_of_getElem? (i := 120) rfl))
          · skip
            refine lv_aload_n hx hb (eX12_read (243, .aload_n 0, 1) (List.mem_of_getElem? (i := 102) rfl)) rfl (lv_at hl183 3 rfl) ?_
            refine tz_rowV (As := []) (st := []) (b := a) (C := RX12) (Ts := gT) hx hb hml hown h2 (fun _ h => h) (hX12_readInterval l D cA ro sz H0 a T (x185) gz hz0 ha hT) ⟨rfl, rfl⟩ ⟨by decide, by decide⟩ ⟨by decide, by decide⟩ (tb_8 113 rfl rfl) (tb_1 12 rfl rfl) (tb_8 110 rfl rfl) (tb_8 112 rfl rfl) (tb_0 51 rfl rfl) (show yX12_readInterval.cls ≠ "java/lang/invoke/MethodHandle" ∧ yX12_readInterval.cls ≠ "java/lang/invoke/VarHandle" ∧ (parseMethodDescriptor yX12_readInterval.desc).map (fun d => d.parameters.length) = some 0 by decide +kernel) zs_blind (zs_ob hh186 ha (show RTg[11]? = some (0, 11, 0, fsX12) from rfl) (zCX12 hKn.1)) (fun U hU hW => ⟨rfl, by rw [hU]; exact hh186.l0, zKb s U hW.alike hKn, by rw [hU]; exact ⟨jv185, jg185⟩⟩) hh186.2.2.1 hl183.1 (Nat.le_of_ble_eq_true rfl) (eX12_read (244, .invokevirtual 436, 3) (List.mem_of_getElem? (i := 103) rfl)) (fun r193 s193 t193 lo193 g193 f193 l193 => ?_)
            obtain ⟨q193, z193, c193, jv193, jg193⟩ := f193
            cases q193
            rw [g193] at c193
            have hh193 : zh_ok D cA RTg ro sz H0 t193.heap lo193 := ⟨z193.1, z193.2.1, l193, z193.2.2.2⟩
            have kp193 := kp185.trans (c193.mono (ms' := rdK) (by decide))
            have gq193 := in_gQ (T := T) (r := x185) hT jv185.2.2
            generalize hx193 : inG T x185 = x193 at jv193 jg193 gq193
            have uu193 := jv193.2.2
            unfold vOK at uu193
            have g0193 := (c193.1 a 11 0 11 0 fsX12 ha rfl (by decide) (by decide)).trans g0185
            have jr193 := jr185.kept ha c193 (by decide)
            refine W.eq (g2 := F0 m 247 ls183 []) rfl ?_
            have hrg : rcG T r0S = x185 := by unfold rcG; rw [hx176, ← hrc, hx185]
            have hrd : rdG T L fo.toInt gz hz0 = v2G T L (inG T x185) := by unfold rdG; rw [if_neg (show ¬ fo.toInt = 0 by omega), if_neg (show ¬ fo.toInt = 1 by omega), if_neg (show ¬ fo.toInt = 2 by omega), if_neg (show ¬ fo.toInt = 3 by omega), if_neg (show ¬ fo.toInt = 4 by omega), if_neg (show ¬ fo.toInt = 5 by omega), hrg, if_pos (by omega)]
            rw [hx193] at hrd
            exact jn247b x193.2.1 x193.1 x193.2.2 v182 ls183 _ _ hh193 kp193 jv193 jg193 jr193 g0193 (by omega) hrd.symm (fun _ => gq193) (lv_sub hl183 [0, 3, 4] rfl)
        · skip
          refine lv_lload hx hb (eX12_read (221, .lload 6, 2) (List.mem_of_getElem? (i := 92) rfl)) (lv_at hl 0 rfl) ?_
          refine lv_goto hx hb (eX12_read (223, .goto 6, 3) (List.mem_of_getElem? (i := 93) rfl)) (tgt := 229) rfl ?_
          refine lv_lstore_n hx hb (eX12_read (229, .lstore_n 2, 1) (List.mem_of_getElem? (i := 95) rfl)) rfl hl (by decide) rfl (fun ls194 hl194 => ?_)
          refine lv_aload_n hx hb (eX12_read (230, .aload_n 0, 1) (List.mem_of_getElem? (i := 96) rfl)) rfl (lv_at hl194 3 rfl) ?_
          refine ff_bipush hx hb (eX12_read (231, .bipush 47, 2) (List.mem_of_getElem? (i := 97) rfl)) (by decide) (by decide) (fun v195 e195 => ?_)
          refine tz_rowV (As := [.int v195]) (st := []) (b := a) (C := RX12) (Ts := gT) hx hb hml hown h2 (fun _ h => h) (hX12_expect l D cA ro sz H0 a v195 47 T (gj) ha (by omega) (by decide)) ⟨rfl, rfl⟩ ⟨by decide, by decide⟩ ⟨by decide, by decide⟩ (tb_8 35 rfl rfl) (tb_1 12 rfl rfl) (tb_8 32 rfl rfl) (tb_8 34 rfl rfl) (tb_0 34 rfl rfl) (show yX12_expect.cls ≠ "java/lang/invoke/MethodHandle" ∧ yX12_expect.cls ≠ "java/lang/invoke/VarHandle" ∧ (parseMethodDescriptor yX12_expect.desc).map (fun d => d.parameters.length) = some 1 by decide +kernel) zs_blind (zs_ob hh0 ha (show RTg[11]? = some (0, 11, 0, fsX12) from rfl) (zCX12 hKn.1)) (fun U hU hW => ⟨rfl, by rw [hU]; exact hh0.l0, zKb s U hW.alike hKn, by rw [hU]; exact jl⟩) hh0.2.2.1 hl194.1 (Nat.le_of_ble_eq_true rfl) (eX12_read (233, .invokevirtual 325, 3) (List.mem_of_getElem? (i := 98) rfl)) (fun r196 s196 t196 lo196 g196 f196 l196 => ?_)
          obtain ⟨q196, z196, c196, jv196⟩ := f196
          cases q196
          rw [g196] at c196
          have hh196 : zh_ok D cA RTg ro sz H0 t196.heap lo196 := ⟨z196.1, z196.2.1, l196, z196.2.2.2⟩
          have kp196 := kpl.trans (c196.mono (ms' := rdK) (by decide))
          generalize hx196 : exG T 47 gj = x196 at jv196
          have uu196 := jv196.2.2
          unfold vOK at uu196
          have bb196 := byI_bd T x196.1
          have jg196 := jgl.kept ha c196 (by decide)
          have g0196 := (c196.1 a 11 0 11 0 fsX12 ha rfl (by decide) (by decide)).trans fw
          have jr196 := jrl.kept ha c196 (by decide)
          refine W.eq (g2 := F0 m 236 ls194 []) rfl ?_
          refine lv_aload_n hx hb (eX12_read (236, .aload_n 0, 1) (List.mem_of_getElem? (i := 99) rfl)) rfl (lv_at hl194 3 rfl) ?_
          refine tz_rowV (As := []) (st := []) (b := a) (C := RX12) (Ts := gT) hx hb hml hown h2 (fun _ h => h) (hX12_isGood l D cA ro sz H0 a T (x196) ha) ⟨rfl, rfl⟩ ⟨by decide, by decide⟩ ⟨by decide, by decide⟩ (tb_8 17 rfl rfl) (tb_1 12 rfl rfl) (tb_8 14 rfl rfl) (tb_8 16 rfl rfl) (tb_0 31 rfl rfl) (show yX12_isGood.cls ≠ "java/lang/invoke/MethodHandle" ∧ yX12_isGood.cls ≠ "java/lang/invoke/VarHandle" ∧ (parseMethodDescriptor yX12_isGood.desc).map (fun d => d.parameters.length) = some 0 by decide +kernel) zs_blind (zs_ob hh196 ha (show RTg[11]? = some (0, 11, 0, fsX12) from rfl) (zCX12 hKn.1)) (fun U hU hW => ⟨rfl, by rw [hU]; exact hh196.l0, zKb s U hW.alike hKn, by rw [hU]; exact jv196⟩) hh196.2.2.1 hl194.1 (Nat.le_of_ble_eq_true rfl) (eX12_read (237, .invokevirtual 305, 3) (List.mem_of_getElem? (i := 100) rfl)) (fun r197 s197 t197 lo197 g197 f197 l197 => ?_)
          obtain ⟨z197, v197, q197, e197⟩ := f197
          cases q197
          rw [z197, g197]
          have hh197 : zh_ok D cA RTg ro sz H0 t196.heap lo197 := ⟨hh196.1, hh196.2.1, l197, hh196.2.2.2⟩
          refine W.eq (g2 := F0 m 240 ls194 [.int v197]) rfl ?_
          refine ff_if_eq hx hb (eX12_read (240, .ifCond .eq 7, 3) (List.mem_of_getElem? (i := 101) rfl)) (tgt := 247) rfl (fun c198 => ?_) (fun c198 => ?_)
          · skip
            refine lv_aload_n hx hb (eX12_read (247, .aload_n 0, 1) (List.mem_of_getElem? (i := 104) rfl)) rfl (lv_at hl194 3 rfl) ?_
            refine tz_rowV (As := []) (st := []) (b := a) (C := RX12) (Ts := gT) hx hb hml hown h2 (fun _ h => h) (hX12_isGood l D cA ro sz H0 a T (x196) ha) ⟨rfl, rfl⟩ ⟨by decide, by decide⟩ ⟨by decide, by decide⟩ (tb_8 17 rfl rfl) (tb_1 12 rfl rfl) (tb_8 14 rfl rfl) (tb_8 16 rfl rfl) (tb_0 31 rfl rfl) (show yX12_isGood.cls ≠ "java/lang/invoke/MethodHandle" ∧ yX12_isGood.cls ≠ "java/lang/invoke/VarHandle" ∧ (parseMethodDescriptor yX12_isGood.desc).map (fun d => d.parameters.length) = some 0 by decide +kernel) zs_blind (zs_ob hh197 ha (show RTg[11]? = some (0, 11, 0, fsX12) from rfl) (zCX12 hKn.1)) (fun U hU hW => ⟨rfl, by rw [hU]; exact hh197.l0, zKb s U hW.alike hKn, by rw [hU]; exact jv196⟩) hh197.2.2.1 hl194.1 (Nat.le_of_ble_eq_true rfl) (eX12_read (248, .invokevirtual 305, 3) (List.mem_of_getElem? (i := 105) rfl)) (fun r199 s199 t199 lo199 g199 f199 l199 => ?_)
            obtain ⟨z199, v199, q199, e199⟩ := f199
            cases q199
            rw [z199, g199]
            have hh199 : zh_ok D cA RTg ro sz H0 t196.heap lo199 := ⟨hh197.1, hh197.2.1, l199, hh197.2.2.2⟩
            refine W.eq (g2 := F0 m 251 ls194 [.int v199]) rfl ?_
            refine ff_if_eq hx hb (eX12_read (251, .ifCond .eq 18, 3) (List.mem_of_getElem? (i := 106) rfl)) (tgt := 269) rfl (fun c200 => ?_) (fun c200 => (by exfalso; omega))
            refine lv_aload_n hx hb (eX12_read (269, .aload_n 0, 1) (List.mem_of_getElem? (i := 114) rfl)) rfl (lv_at hl194 3 rfl) ?_
            obtain ⟨jt201, ⟨av201, fv201, bv201, f29201, f30201, f31201, hav201, hfv201, hbv201⟩, hu201⟩ := id jv196
            refine tz_get (r := 11) (k := 30) (t := (0, (-1), 120)) hx hb hh199 ha rfl rfl (hcl11 296 30 (0, (-1), 120) (by decide) rfl).1 f30201 (eX12_read (270, .getfield 296, 3) (List.mem_of_getElem? (i := 115) rfl)) ?_
            refine ff_if_lt hx hb (eX12_read (273, .ifCond .lt 9, 3) (List.mem_of_getElem? (i := 116) rfl)) (tgt := 282) rfl (fun c202 => (by exfalso; omega)) (fun c202 => ?_)
            refine lv_aload_n hx hb (eX12_read (276, .aload_n 0, 1) (List.mem_of_getElem? (i := 117) rfl)) rfl (lv_at hl194 3 rfl) ?_
            refine tz_get (r := 11) (k := 30) (t := (0, (-1), 120)) hx hb hh199 ha rfl rfl (hcl11 296 30 (0, (-1), 120) (by decide) rfl).1 f30201 (eX12_read (277, .getfield 296, 3) (List.mem_of_getElem? (i := 118) rfl)) ?_
            refine ff_i2l hx hb (eX12_read (280, .i2l, 1) (List.mem_of_getElem? (i := 119) rfl)) (fun v203 e203 => ?_)
            have hrg : rcG T r0S = x196 := by unfold rcG; rw [hx176, ← hrc, hx196]
            have hvd : v203.toInt = rdG T L fo.toInt gz hz0 := by unfold rdG; rw [if_neg (show ¬ fo.toInt = 0 by omega), if_neg (show ¬ fo.toInt = 1 by omega), if_neg (show ¬ fo.toInt = 2 by omega), if_neg (show ¬ fo.toInt = 3 by omega), if_neg (show ¬ fo.toInt = 4 by omega), if_neg (show ¬ fo.toInt = 5 by omega), hrg, if_neg (by omega)]; unfold v2G; dsimp only; rw [show endG T x196 = x196 from by unfold endG; rw [if_neg (by omega)]]; unfold vfG; rw [if_pos (by omega)]; omega
            exact W.lret hx hb hr (fun t ht hW => ⟨_, _, rfl, by rw [ht]; exact hh199.l0, by rw [ht]; exact kp196, by rw [ht]; exact g0196, Or.inr ⟨by omega, by omega, hvd.trans (rdG_any hL hT)⟩⟩) hh199.2.2.1 (eX12_read (281, .lreturn, 1) (List.mem_of_getElem? (i := 120) rfl))
          · skip
            refine lv_aload_n hx hb (eX12_read (243, .aload_n 0, 1) (List.mem_of_getElem? (i := 102) rfl)) rfl (lv_at hl194 3 rfl) ?_
            refine tz_rowV (As := []) (st := []) (b := a) (C := RX12) (Ts := gT) hx hb hml hown h2 (fun _ h => h) (hX12_readInterval l D cA ro sz H0 a T (x196) gz hz0 ha hT) ⟨rfl, rfl⟩ ⟨by decide, by decide⟩ ⟨by decide, by decide⟩ (tb_8 113 rfl rfl) (tb_1 12 rfl rfl) (tb_8 110 rfl rfl) (tb_8 112 rfl rfl) (tb_0 51 rfl rfl) (show yX12_readInterval.cls ≠ "java/lang/invoke/MethodHandle" ∧ yX12_readInterval.cls ≠ "java/lang/invoke/VarHandle" ∧ (parseMethodDescriptor yX12_readInterval.desc).map (fun d => d.parameters.length) = some 0 by decide +kernel) zs_blind (zs_ob hh197 ha (show RTg[11]? = some (0, 11, 0, fsX12) from rfl) (zCX12 hKn.1)) (fun U hU hW => ⟨rfl, by rw [hU]; exact hh197.l0, zKb s U hW.alike hKn, by rw [hU]; exact ⟨jv196, jg196⟩⟩) hh197.2.2.1 hl194.1 (Nat.le_of_ble_eq_true rfl) (eX12_read (244, .invokevirtual 436, 3) (List.mem_of_getElem? (i := 103) rfl)) (fun r204 s204 t204 lo204 g204 f204 l204 => ?_)
            obtain ⟨q204, z204, c204, jv204, jg204⟩ := f204
            cases q204
            rw [g204] at c204
            have hh204 : zh_ok D cA RTg ro sz H0 t204.heap lo204 := ⟨z204.1, z204.2.1, l204, z204.2.2.2⟩
            have kp204 := kp196.trans (c204.mono (ms' := rdK) (by decide))
            have gq204 := in_gQ (T := T) (r := x196) hT jv196.2.2
            generalize hx204 : inG T x196 = x204 at jv204 jg204 gq204
            have uu204 := jv204.2.2
            unfold vOK at uu204
            have g0204 := (c204.1 a 11 0 11 0 fsX12 ha rfl (by decide) (by decide)).trans g0196
            have jr204 := jr196.kept ha c204 (by decide)
            refine W.eq (g2 := F0 m 247 ls194 []) rfl ?_
            have hrg : rcG T r0S = x196 := by unfold rcG; rw [hx176, ← hrc, hx196]
            have hrd : rdG T L fo.toInt gz hz0 = v2G T L (inG T x196) := by unfold rdG; rw [if_neg (show ¬ fo.toInt = 0 by omega), if_neg (show ¬ fo.toInt = 1 by omega), if_neg (show ¬ fo.toInt = 2 by omega), if_neg (show ¬ fo.toInt = 3 by omega), if_neg (show ¬ fo.toInt = 4 by omega), if_neg (show ¬ fo.toInt = 5 by omega), hrg, if_pos (by omega)]
            rw [hx204] at hrd
            exact jn247b x204.2.1 x204.1 x204.2.2 vv ls194 _ _ hh204 kp204 jv204 jg204 jr204 g0204 (by omega) hrd.symm (fun _ => gq204) (lv_sub hl194 [0, 3, 4] rfl)
      have loop : ∀ (m0 i : Nat) (gj : uS) (vv cv : Int64) (kv : Int32) (ls : Array Slot) (H : Heap) (lo0 : List Loc), i + m0 = 9 → kv.toInt = (i : Int) → (0 ≤ vv.toInt ∧ vv.toInt ≤ nB i) → (if gj.2.1 < 0 then (dcL T m0 vv.toInt (i : Int) gj).2 else gj) = (if x176.2.1 < 0 then (dcL T 9 0 0 x176).2 else x176) → zh_ok D cA RTg ro sz H0 H lo0 → zc_kept D RTg ro rdK s.heap H → jV D cA ro H a T gj → jG D cA ro H a 0 gz hz0 → jR D cA ro H a L → zh_f D H a 11 0 = .int v10 → lv_has ls 8 [(6, .long vv), (5, .int kv), (2, .long cv), (0, .ref a), (1, .int fo)] → W p l e (headSpec (gW yX12_read cX12_read 8 (some .long)) { frames := 6, cells := 0, slots := 0, locals := 167 }).room s m ([.ref a, .int fo] : List Value).toArray below meth c H lo0 0 0 (MQ below (fun _ st oc t => ∃ (r : Int64) (w : Int32), oc = .returned (some (.long r)) ∧ zh_ok D cA RTg ro sz H0 t.heap [] ∧ zc_kept D RTg ro rdK st.heap t.heap ∧ zh_f D t.heap a 11 0 = .int w ∧ spRd fo.toInt T L w.toInt r.toInt) ([.ref a, .int fo] : List Value).toArray s 0 0 (zy_fr sz)) (F0 m 158 ls []) := by
        intro m0
        induction m0 with
        | zero =>
          intro i gj vv cv kv ls H lo0 hi hkv hvv htc hh0 kpl jl jgl jrl fw hl
          have hul := jl.2.2
          unfold vOK at hul
          have hbj := byI_bd T gj.1
          refine lv_aload_n hx hb (eX12_read (158, .aload_n 0, 1) (List.mem_of_getElem? (i := 62) rfl)) rfl (lv_at hl 3 rfl) ?_
          refine tz_rowV (As := []) (st := []) (b := a) (C := RX12) (Ts := gT) hx hb hml hown h2 (fun _ h => h) (hX12_isGood l D cA ro sz H0 a T (gj) ha) ⟨rfl, rfl⟩ ⟨by decide, by decide⟩ ⟨by decide, by decide⟩ (tb_8 17 rfl rfl) (tb_1 12 rfl rfl) (tb_8 14 rfl rfl) (tb_8 16 rfl rfl) (tb_0 31 rfl rfl) (show yX12_isGood.cls ≠ "java/lang/invoke/MethodHandle" ∧ yX12_isGood.cls ≠ "java/lang/invoke/VarHandle" ∧ (parseMethodDescriptor yX12_isGood.desc).map (fun d => d.parameters.length) = some 0 by decide +kernel) zs_blind (zs_ob hh0 ha (show RTg[11]? = some (0, 11, 0, fsX12) from rfl) (zCX12 hKn.1)) (fun U hU hW => ⟨rfl, by rw [hU]; exact hh0.l0, zKb s U hW.alike hKn, by rw [hU]; exact jl⟩) hh0.2.2.1 hl.1 (Nat.le_of_ble_eq_true rfl) (eX12_read (159, .invokevirtual 305, 3) (List.mem_of_getElem? (i := 63) rfl)) (fun r205 s205 t205 lo205 g205 f205 l205 => ?_)
          obtain ⟨z205, v205, q205, e205⟩ := f205
          cases q205
          rw [z205, g205]
          have hh205 : zh_ok D cA RTg ro sz H0 H lo205 := ⟨hh0.1, hh0.2.1, l205, hh0.2.2.2⟩
          refine W.eq (g2 := F0 m 162 ls [.int v205]) rfl ?_
          refine ff_if_eq hx hb (eX12_read (162, .ifCond .eq 54, 3) (List.mem_of_getElem? (i := 64) rfl)) (tgt := 216) rfl (fun c206 => ?_) (fun c206 => ?_)
          · skip
            have hrc : gj = _ := (by rw [if_neg (by omega)] : _ = gj).symm.trans htc
            exact jn216 gj vv cv kv ls _ _ hh205 kpl jl jgl jrl fw hrc (lv_sub hl [0, 1, 2, 3, 4] rfl)
          · skip
            refine lv_iload hx hb (eX12_read (165, .iload 5, 2) (List.mem_of_getElem? (i := 65) rfl)) (lv_at hl 1 rfl) ?_
            refine ff_bipush hx hb (eX12_read (167, .bipush 9, 2) (List.mem_of_getElem? (i := 66) rfl)) (by decide) (by decide) (fun v207 e207 => ?_)
            refine ff_icmp_ge hx hb (eX12_read (169, .if_icmp .ge 47, 3) (List.mem_of_getElem? (i := 67) rfl)) (tgt := 216) rfl (fun c208 => ?_) (fun c208 => (by exfalso; omega))
            have hrc : gj = _ := (by rw [if_pos (show gj.2.1 < 0 by omega)] <;> rfl : _ = gj).symm.trans htc
            exact jn216 gj vv cv kv ls _ _ hh205 kpl jl jgl jrl fw hrc (lv_sub hl [0, 1, 2, 3, 4] rfl)
        | succ m0 ih =>
          intro i gj vv cv kv ls H lo0 hi hkv hvv htc hh0 kpl jl jgl jrl fw hl
          have hul := jl.2.2
          unfold vOK at hul
          have hbj := byI_bd T gj.1
          have hB8 := nB_8 i (by omega)
          refine lv_aload_n hx hb (eX12_read (158, .aload_n 0, 1) (List.mem_of_getElem? (i := 62) rfl)) rfl (lv_at hl 3 rfl) ?_
          refine tz_rowV (As := []) (st := []) (b := a) (C := RX12) (Ts := gT) hx hb hml hown h2 (fun _ h => h) (hX12_isGood l D cA ro sz H0 a T (gj) ha) ⟨rfl, rfl⟩ ⟨by decide, by decide⟩ ⟨by decide, by decide⟩ (tb_8 17 rfl rfl) (tb_1 12 rfl rfl) (tb_8 14 rfl rfl) (tb_8 16 rfl rfl) (tb_0 31 rfl rfl) (show yX12_isGood.cls ≠ "java/lang/invoke/MethodHandle" ∧ yX12_isGood.cls ≠ "java/lang/invoke/VarHandle" ∧ (parseMethodDescriptor yX12_isGood.desc).map (fun d => d.parameters.length) = some 0 by decide +kernel) zs_blind (zs_ob hh0 ha (show RTg[11]? = some (0, 11, 0, fsX12) from rfl) (zCX12 hKn.1)) (fun U hU hW => ⟨rfl, by rw [hU]; exact hh0.l0, zKb s U hW.alike hKn, by rw [hU]; exact jl⟩) hh0.2.2.1 hl.1 (Nat.le_of_ble_eq_true rfl) (eX12_read (159, .invokevirtual 305, 3) (List.mem_of_getElem? (i := 63) rfl)) (fun r209 s209 t209 lo209 g209 f209 l209 => ?_)
          obtain ⟨z209, v209, q209, e209⟩ := f209
          cases q209
          rw [z209, g209]
          have hh209 : zh_ok D cA RTg ro sz H0 H lo209 := ⟨hh0.1, hh0.2.1, l209, hh0.2.2.2⟩
          refine W.eq (g2 := F0 m 162 ls [.int v209]) rfl ?_
          refine ff_if_eq hx hb (eX12_read (162, .ifCond .eq 54, 3) (List.mem_of_getElem? (i := 64) rfl)) (tgt := 216) rfl (fun c210 => ?_) (fun c210 => ?_)
          · skip
            have hrc : gj = _ := (by rw [if_neg (by omega)] : _ = gj).symm.trans htc
            exact jn216 gj vv cv kv ls _ _ hh209 kpl jl jgl jrl fw hrc (lv_sub hl [0, 1, 2, 3, 4] rfl)
          · skip
            refine lv_iload hx hb (eX12_read (165, .iload 5, 2) (List.mem_of_getElem? (i := 65) rfl)) (lv_at hl 1 rfl) ?_
            refine ff_bipush hx hb (eX12_read (167, .bipush 9, 2) (List.mem_of_getElem? (i := 66) rfl)) (by decide) (by decide) (fun v211 e211 => ?_)
            refine ff_icmp_ge hx hb (eX12_read (169, .if_icmp .ge 47, 3) (List.mem_of_getElem? (i := 67) rfl)) (tgt := 216) rfl (fun c212 => (by exfalso; omega)) (fun c212 => ?_)
            refine lv_aload_n hx hb (eX12_read (172, .aload_n 0, 1) (List.mem_of_getElem? (i := 68) rfl)) rfl (lv_at hl 3 rfl) ?_
            refine tz_rowV (As := []) (st := []) (b := a) (C := RX12) (Ts := gT) hx hb hml hown h2 (fun _ h => h) (hX12_sign l D cA ro sz H0 a T (gj) ha) ⟨rfl, rfl⟩ ⟨by decide, by decide⟩ ⟨by decide, by decide⟩ (tb_8 21 rfl rfl) (tb_1 12 rfl rfl) (tb_8 18 rfl rfl) (tb_8 20 rfl rfl) (tb_0 32 rfl rfl) (show yX12_sign.cls ≠ "java/lang/invoke/MethodHandle" ∧ yX12_sign.cls ≠ "java/lang/invoke/VarHandle" ∧ (parseMethodDescriptor yX12_sign.desc).map (fun d => d.parameters.length) = some 0 by decide +kernel) zs_blind (zs_ob hh209 ha (show RTg[11]? = some (0, 11, 0, fsX12) from rfl) (zCX12 hKn.1)) (fun U hU hW => ⟨rfl, by rw [hU]; exact hh209.l0, zKb s U hW.alike hKn, by rw [hU]; exact jl⟩) hh209.2.2.1 hl.1 (Nat.le_of_ble_eq_true rfl) (eX12_read (173, .invokevirtual 309, 3) (List.mem_of_getElem? (i := 69) rfl)) (fun r213 s213 t213 lo213 g213 f213 l213 => ?_)
            obtain ⟨z213, v213, q213, e213⟩ := f213
            cases q213
            rw [z213, g213]
            have hh213 : zh_ok D cA RTg ro sz H0 H lo213 := ⟨hh209.1, hh209.2.1, l213, hh209.2.2.2⟩
            refine W.eq (g2 := F0 m 176 ls [.int v213]) rfl ?_
            refine zu_S (vs := [.int v213]) (rest := []) hx hb hml hown hts0 zu_BT (hX12_isDigit l v213) ⟨rfl, rfl⟩ ⟨by decide, by decide⟩ ⟨by decide, by decide⟩ (tb_8 27 rfl rfl) (tb_1 12 rfl rfl) (tb_8 25 rfl rfl) (tb_8 26 rfl rfl) (show yX12_isDigit.cls ≠ "java/lang/invoke/MethodHandle" ∧ yX12_isDigit.cls ≠ "java/lang/invoke/VarHandle" ∧ (parseMethodDescriptor yX12_isDigit.desc).map (fun d => d.parameters.length) = some 1 by decide +kernel) rfl (fun _ _ _ => trivial) hl.1 (Nat.le_of_ble_eq_true rfl) (eX12_read (176, .invokestatic 319, 3) (List.mem_of_getElem? (i := 70) rfl)) (fun w214 f214 => ?_)
            obtain ⟨v214, rfl, e214⟩ := f214
            refine ff_if_eq hx hb (eX12_read (179, .ifCond .eq 37, 3) (List.mem_of_getElem? (i := 71) rfl)) (tgt := 216) rfl (fun c215 => ?_) (fun c215 => ?_)
            · skip
              have hnd : ¬ isD (byI T gj.1) := by omega
              have hrc : gj = _ := (by rw [if_pos (show gj.2.1 < 0 by omega)]; show (if _ then _ else _ : (Int × Int) × uS).2 = gj; rw [if_neg hnd] : _ = gj).symm.trans htc
              exact jn216 gj vv cv kv ls _ _ hh213 kpl jl jgl jrl fw hrc (lv_sub hl [0, 1, 2, 3, 4] rfl)
            · skip
              have hdg : isD (byI T gj.1) := by omega
              have hdx := hdg.1
              have hdy := hdg.2
              refine ff_ldc2 (n := 10) hx hb hown h2 (clX12_ok 373 10 (List.mem_of_getElem? (i := 32) rfl)) (eX12_read (182, .ldc2_w 373, 3) (List.mem_of_getElem? (i := 72) rfl)) (fun v216 e216 => ?_)
              refine lv_lload hx hb (eX12_read (185, .lload 6, 2) (List.mem_of_getElem? (i := 73) rfl)) (lv_at hl 0 rfl) ?_
              refine ff_lmulL hx hb (eX12_read (187, .lmul, 1) (List.mem_of_getElem? (i := 74) rfl)) (e216) (by omega) (by omega) (fun v217 e217 => ?_)
              refine lv_aload_n hx hb (eX12_read (188, .aload_n 0, 1) (List.mem_of_getElem? (i := 75) rfl)) rfl (lv_at hl 3 rfl) ?_
              refine tz_rowV (As := []) (st := [.long v217]) (b := a) (C := RX12) (Ts := gT) hx hb hml hown h2 (fun _ h => h) (hX12_sign l D cA ro sz H0 a T (gj) ha) ⟨rfl, rfl⟩ ⟨by decide, by decide⟩ ⟨by decide, by decide⟩ (tb_8 21 rfl rfl) (tb_1 12 rfl rfl) (tb_8 18 rfl rfl) (tb_8 20 rfl rfl) (tb_0 32 rfl rfl) (show yX12_sign.cls ≠ "java/lang/invoke/MethodHandle" ∧ yX12_sign.cls ≠ "java/lang/invoke/VarHandle" ∧ (parseMethodDescriptor yX12_sign.desc).map (fun d => d.parameters.length) = some 0 by decide +kernel) zs_blind (zs_ob hh213 ha (show RTg[11]? = some (0, 11, 0, fsX12) from rfl) (zCX12 hKn.1)) (fun U hU hW => ⟨rfl, by rw [hU]; exact hh213.l0, zKb s U hW.alike hKn, by rw [hU]; exact jl⟩) hh213.2.2.1 hl.1 (Nat.le_of_ble_eq_true rfl) (eX12_read (189, .invokevirtual 309, 3) (List.mem_of_getElem? (i := 76) rfl)) (fun r218 s218 t218 lo218 g218 f218 l218 => ?_)
              obtain ⟨z218, v218, q218, e218⟩ := f218
              cases q218
              rw [z218, g218]
              have hh218 : zh_ok D cA RTg ro sz H0 H lo218 := ⟨hh213.1, hh213.2.1, l218, hh213.2.2.2⟩
              refine W.eq (g2 := F0 m 192 ls [.int v218, .long v217]) rfl ?_
              refine ff_i2l hx hb (eX12_read (192, .i2l, 1) (List.mem_of_getElem? (i := 77) rfl)) (fun v219 e219 => ?_)
              refine ff_ladd hx hb (eX12_read (193, .ladd, 1) (List.mem_of_getElem? (i := 78) rfl)) (by omega) (by omega) (fun v220 e220 => ?_)
              refine ff_ldc2 (n := 48) hx hb hown h2 (clX12_ok 375 48 (List.mem_of_getElem? (i := 33) rfl)) (eX12_read (194, .ldc2_w 375, 3) (List.mem_of_getElem? (i := 79) rfl)) (fun v221 e221 => ?_)
              refine ff_lsub hx hb (eX12_read (197, .lsub, 1) (List.mem_of_getElem? (i := 80) rfl)) (by omega) (by omega) (fun v222 e222 => ?_)
              refine lv_lstore hx hb (eX12_read (198, .lstore 6, 2) (List.mem_of_getElem? (i := 81) rfl)) hl (by decide) rfl (fun ls223 hl223 => ?_)
              refine ff_iinc (k := 1) hx hb (eX12_read (200, .iinc 5 1, 3) (List.mem_of_getElem? (i := 82) rfl)) hl223 rfl (by decide) (by decide) (by decide) (by omega) (by omega) (fun v224 e224 ls224 hl224 => ?_)
              refine lv_aload_n hx hb (eX12_read (203, .aload_n 0, 1) (List.mem_of_getElem? (i := 83) rfl)) rfl (lv_at hl224 3 rfl) ?_
              refine lv_dup hx hb (eX12_read (204, .dup, 1) (List.mem_of_getElem? (i := 84) rfl)) rfl ?_
              obtain ⟨jt225, ⟨av225, fv225, bv225, f29225, f30225, f31225, hav225, hfv225, hbv225⟩, hu225⟩ := id jl
              refine tz_get (r := 11) (k := 29) (t := (0, 0, 120)) hx hb hh218 ha rfl rfl (hcl11 293 29 (0, 0, 120) (by decide) rfl).1 f29225 (eX12_read (205, .getfield 293, 3) (List.mem_of_getElem? (i := 85) rfl)) ?_
              refine ff_iconst hx hb (eX12_read (208, .iconst 1, 1) (List.mem_of_getElem? (i := 86) rfl)) (by decide) (by decide) (fun v226 e226 => ?_)
              have ha9227 : av225.toInt + v226.toInt ≤ 121 ∧ 0 ≤ av225.toInt := by omega
              refine ff_iadd hx hb (eX12_read (209, .iadd, 1) (List.mem_of_getElem? (i := 87) rfl)) (by omega) (by omega) (fun v227 e227 => ?_)
              have hlt := byI_lt (T := T) (a := gj.1) (by omega) (by omega)
              refine tz_put (r := 11) (k := 29) (t := (0, 0, 120)) hx hb hD hh218 ha rfl rfl ((hcl11 293 29 (0, 0, 120) (by decide) rfl).2 (by decide)) (tz_i (by omega) (by omega)) (eX12_read (210, .putfield 293, 3) (List.mem_of_getElem? (i := 88) rfl)) (fun H228 lo228 hh228 hf228 hk228 _ hq228 => ?_)
              have mf228_a_30 := (hk228.1 a 11 30 11 0 fsX12 ha rfl (by decide) (by decide)).trans f30225
              have mf228_a_31 := (hk228.1 a 11 31 11 0 fsX12 ha rfl (by decide) (by decide)).trans f31225
              have kp228 := kpl.trans (hk228.mono (ms' := rdK) (fun x hx => by cases List.mem_singleton.mp hx; decide))
              have jv228 : jV D cA ro H228 a T (gj.1 + 1, gj.2) := ⟨jl.1.kept ha hk228 (by decide) (by decide) (by decide), ⟨_, _, _, hf228, mf228_a_30, mf228_a_31, by show _ = gj.1 + 1; omega, hfv225, hbv225⟩, adG_ok jl.2.2 (by omega)⟩
              have jg228 := jgl.kept ha hk228 (by decide)
              have uv228 := jv228.2.2
              unfold vOK at uv228
              have bb228 := byI_bd T (gj.1 + 1, gj.2).1
              have g0228 := (hk228.1 a 11 0 11 0 fsX12 ha rfl (by decide) (by decide)).trans fw
              have jr228 := jrl.kept ha hk228 (by decide)
              refine lv_goto hx hb (eX12_read (213, .goto (-55), 3) (List.mem_of_getElem? (i := 89) rfl)) (tgt := 158) rfl ?_
              exact ih (i + 1) (gj.1 + 1, gj.2) v222 cv v224 ls224 _ _ (by omega) (by omega) ⟨by omega, by show _ ≤ nB i * 10 + 9; omega⟩ (by rw [← htc, if_pos (show ((gj.1 + 1, gj.2) : uS).2.1 < 0 by show gj.2.1 < 0; omega), if_pos (show gj.2.1 < 0 by omega)]; show _ = (if _ then _ else _ : (Int × Int) × uS).2; rw [if_pos hdg, ← show v222.toInt = 10 * vv.toInt + byI T gj.1 - 48 by omega] <;> rfl) hh228 kp228 jv228 jg228 jr228 g0228 (lv_sub hl224 [1, 0, 2, 3, 4] rfl)
      exact loop 9 0 x176 v179 v172 v177 ls180 _ _ (by omega) (by omega) ⟨by omega, by show _ ≤ (0 : Int); omega⟩ (by rw [show v179.toInt = 0 by omega] <;> rfl) hh176 kp176 jv176 jg176 jr176 g0176 (lv_sub hl180 [0, 1, 2, 3, 4] rfl)
    by_cases gh : 5 < fo.toInt
    · refine lv_tableOut hx hb (eX12_read (44, .tableswitch 102 0 5 #[40, 47, 60, 81, 88, 95], 40) (List.mem_of_getElem? (i := 24) rfl)) (Or.inr gh) (tgt := 146) rfl ?_
      refine lv_aload_n hx hb (eX12_read (146, .aload_n 0, 1) (List.mem_of_getElem? (i := 55) rfl)) rfl (lv_at hl173 1 rfl) ?_
      refine ff_bipush hx hb (eX12_read (147, .bipush 82, 2) (List.mem_of_getElem? (i := 56) rfl)) (by decide) (by decide) (fun v229 e229 => ?_)
      refine tz_rowV (As := [.int v229]) (st := []) (b := a) (C := RX12) (Ts := gT) hx hb hml hown h2 (fun _ h => h) (hX12_expect l D cA ro sz H0 a v229 82 T (r0S) ha (by omega) (by decide)) ⟨rfl, rfl⟩ ⟨by decide, by decide⟩ ⟨by decide, by decide⟩ (tb_8 35 rfl rfl) (tb_1 12 rfl rfl) (tb_8 32 rfl rfl) (tb_8 34 rfl rfl) (tb_0 34 rfl rfl) (show yX12_expect.cls ≠ "java/lang/invoke/MethodHandle" ∧ yX12_expect.cls ≠ "java/lang/invoke/VarHandle" ∧ (parseMethodDescriptor yX12_expect.desc).map (fun d => d.parameters.length) = some 1 by decide +kernel) zs_blind (zs_ob hh15 ha (show RTg[11]? = some (0, 11, 0, fsX12) from rfl) (zCX12 hKn.1)) (fun U hU hW => ⟨rfl, by rw [hU]; exact hh15.l0, zKb s U hW.alike hKn, by rw [hU]; exact jv15⟩) hh15.2.2.1 hl173.1 (Nat.le_of_ble_eq_true rfl) (eX12_read (149, .invokevirtual 325, 3) (List.mem_of_getElem? (i := 57) rfl)) (fun r230 s230 t230 lo230 g230 f230 l230 => ?_)
      obtain ⟨q230, z230, c230, jv230⟩ := f230
      cases q230
      rw [g230] at c230
      have hh230 : zh_ok D cA RTg ro sz H0 t230.heap lo230 := ⟨z230.1, z230.2.1, l230, z230.2.2.2⟩
      have kp230 := kp15.trans (c230.mono (ms' := rdK) (by decide))
      generalize hx230 : exG T 82 r0S = x230 at jv230
      have uu230 := jv230.2.2
      unfold vOK at uu230
      have bb230 := byI_bd T x230.1
      have jg230 := jg0.kept ha c230 (by decide)
      have g0230 := (c230.1 a 11 0 11 0 fsX12 ha rfl (by decide) (by decide)).trans g015
      have jr230 := jr15.kept ha c230 (by decide)
      refine W.eq (g2 := F0 m 152 ls173 []) rfl ?_
      refine ff_iconst hx hb (eX12_read (152, .iconst 0, 1) (List.mem_of_getElem? (i := 58) rfl)) (by decide) (by decide) (fun v231 e231 => ?_)
      refine lv_istore hx hb (eX12_read (153, .istore 5, 2) (List.mem_of_getElem? (i := 59) rfl)) hl173 (by decide) rfl (fun ls232 hl232 => ?_)
      refine ff_lconst hx hb (eX12_read (155, .lconst 0, 1) (List.mem_of_getElem? (i := 60) rfl)) rfl (fun v233 e233 => ?_)
      refine lv_lstore hx hb (eX12_read (156, .lstore 6, 2) (List.mem_of_getElem? (i := 61) rfl)) hl232 (by decide) rfl (fun ls234 hl234 => ?_)
      have jn216 : ∀ (gj : uS) (vv cv : Int64) (kv : Int32) (ls : Array Slot) (H : Heap) (lo0 : List Loc), zh_ok D cA RTg ro sz H0 H lo0 → zc_kept D RTg ro rdK s.heap H → jV D cA ro H a T gj → jG D cA ro H a 0 gz hz0 → jR D cA ro H a L → zh_f D H a 11 0 = .int v10 → gj = (if x230.2.1 < 0 then (dcL T 9 0 0 x230).2 else x230) → lv_has ls 8 [(6, .long vv), (5, .int kv), (2, .long cv), (0, .ref a), (1, .int fo)] → W p l e (headSpec (gW yX12_read cX12_read 8 (some .long)) { frames := 6, cells := 0, slots := 0, locals := 167 }).room s m ([.ref a, .int fo] : List Value).toArray below meth c H lo0 0 0 (MQ below (fun _ st oc t => ∃ (r : Int64) (w : Int32), oc = .returned (some (.long r)) ∧ zh_ok D cA RTg ro sz H0 t.heap [] ∧ zc_kept D RTg ro rdK st.heap t.heap ∧ zh_f D t.heap a 11 0 = .int w ∧ spRd fo.toInt T L w.toInt r.toInt) ([.ref a, .int fo] : List Value).toArray s 0 0 (zy_fr sz)) (F0 m 216 ls []) := by
        intro gj vv cv kv ls H lo0 hh0 kpl jl jgl jrl fw hrc hl
        have hul := jl.2.2
        unfold vOK at hul
        have hbj := byI_bd T gj.1
        refine lv_iload hx hb (eX12_read (216, .iload 5, 2) (List.mem_of_getElem? (i := 90) rfl)) (lv_at hl 1 rfl) ?_
        refine ff_if_le hx hb (eX12_read (218, .ifCond .le 8, 3) (List.mem_of_getElem? (i := 91) rfl)) (tgt := 226) rfl (fun c235 => ?_) (fun c235 => ?_)
        · skip
          refine ff_ldc2 (n := (-9223372036854775808)) hx hb hown h2 (clX12_ok 83 (-9223372036854775808) (List.mem_of_getElem? (i := 2) rfl)) (eX12_read (226, .ldc2_w 83, 3) (List.mem_of_getElem? (i := 94) rfl)) (fun v236 e236 => ?_)
          refine lv_lstore_n hx hb (eX12_read (229, .lstore_n 2, 1) (List.mem_of_getElem? (i := 95) rfl)) rfl hl (by decide) rfl (fun ls237 hl237 => ?_)
          refine lv_aload_n hx hb (eX12_read (230, .aload_n 0, 1) (List.mem_of_getElem? (i := 96) rfl)) rfl (lv_at hl237 3 rfl) ?_
          refine ff_bipush hx hb (eX12_read (231, .bipush 47, 2) (List.mem_of_getElem? (i := 97) rfl)) (by decide) (by decide) (fun v238 e238 => ?_)
          refine tz_rowV (As := [.int v238]) (st := []) (b := a) (C := RX12) (Ts := gT) hx hb hml hown h2 (fun _ h => h) (hX12_expect l D cA ro sz H0 a v238 47 T (gj) ha (by omega) (by decide)) ⟨rfl, rfl⟩ ⟨by decide, by decide⟩ ⟨by decide, by decide⟩ (tb_8 35 rfl rfl) (tb_1 12 rfl rfl) (tb_8 32 rfl rfl) (tb_8 34 rfl rfl) (tb_0 34 rfl rfl) (show yX12_expect.cls ≠ "java/lang/invoke/MethodHandle" ∧ yX12_expect.cls ≠ "java/lang/invoke/VarHandle" ∧ (parseMethodDescriptor yX12_expect.desc).map (fun d => d.parameters.length) = some 1 by decide +kernel) zs_blind (zs_ob hh0 ha (show RTg[11]? = some (0, 11, 0, fsX12) from rfl) (zCX12 hKn.1)) (fun U hU hW => ⟨rfl, by rw [hU]; exact hh0.l0, zKb s U hW.alike hKn, by rw [hU]; exact jl⟩) hh0.2.2.1 hl237.1 (Nat.le_of_ble_eq_true rfl) (eX12_read (233, .invokevirtual 325, 3) (List.mem_of_getElem? (i := 98) rfl)) (fun r239 s239 t239 lo239 g239 f239 l239 => ?_)
          obtain ⟨q239, z239, c239, jv239⟩ := f239
          cases q239
          rw [g239] at c239
          have hh239 : zh_ok D cA RTg ro sz H0 t239.heap lo239 := ⟨z239.1, z239.2.1, l239, z239.2.2.2⟩
          have kp239 := kpl.trans (c239.mono (ms' := rdK) (by decide))
          generalize hx239 : exG T 47 gj = x239 at jv239
          have uu239 := jv239.2.2
          unfold vOK at uu239
          have bb239 := byI_bd T x239.1
          have jg239 := jgl.kept ha c239 (by decide)
          have g0239 := (c239.1 a 11 0 11 0 fsX12 ha rfl (by decide) (by decide)).trans fw
          have jr239 := jrl.kept ha c239 (by decide)
          refine W.eq (g2 := F0 m 236 ls237 []) rfl ?_
          refine lv_aload_n hx hb (eX12_read (236, .aload_n 0, 1) (List.mem_of_getElem? (i := 99) rfl)) rfl (lv_at hl237 3 rfl) ?_
          refine tz_rowV (As := []) (st := []) (b := a) (C := RX12) (Ts := gT) hx hb hml hown h2 (fun _ h => h) (hX12_isGood l D cA ro sz H0 a T (x239) ha) ⟨rfl, rfl⟩ ⟨by decide, by decide⟩ ⟨by decide, by decide⟩ (tb_8 17 rfl rfl) (tb_1 12 rfl rfl) (tb_8 14 rfl rfl) (tb_8 16 rfl rfl) (tb_0 31 rfl rfl) (show yX12_isGood.cls ≠ "java/lang/invoke/MethodHandle" ∧ yX12_isGood.cls ≠ "java/lang/invoke/VarHandle" ∧ (parseMethodDescriptor yX12_isGood.desc).map (fun d => d.parameters.length) = some 0 by decide +kernel) zs_blind (zs_ob hh239 ha (show RTg[11]? = some (0, 11, 0, fsX12) from rfl) (zCX12 hKn.1)) (fun U hU hW => ⟨rfl, by rw [hU]; exact hh239.l0, zKb s U hW.alike hKn, by rw [hU]; exact jv239⟩) hh239.2.2.1 hl237.1 (Nat.le_of_ble_eq_true rfl) (eX12_read (237, .invokevirtual 305, 3) (List.mem_of_getElem? (i := 100) rfl)) (fun r240 s240 t240 lo240 g240 f240 l240 => ?_)
          obtain ⟨z240, v240, q240, e240⟩ := f240
          cases q240
          rw [z240, g240]
          have hh240 : zh_ok D cA RTg ro sz H0 t239.heap lo240 := ⟨hh239.1, hh239.2.1, l240, hh239.2.2.2⟩
          refine W.eq (g2 := F0 m 240 ls237 [.int v240]) rfl ?_
          refine ff_if_eq hx hb (eX12_read (240, .ifCond .eq 7, 3) (List.mem_of_getElem? (i := 101) rfl)) (tgt := 247) rfl (fun c241 => ?_) (fun c241 => ?_)
          · skip
            refine lv_aload_n hx hb (eX12_read (247, .aload_n 0, 1) (List.mem_of_getElem? (i := 104) rfl)) rfl (lv_at hl237 3 rfl) ?_
            refine tz_rowV (As := []) (st := []) (b := a) (C := RX12) (Ts := gT) hx hb hml hown h2 (fun _ h => h) (hX12_isGood l D cA ro sz H0 a T (x239) ha) ⟨rfl, rfl⟩ ⟨by decide, by decide⟩ ⟨by decide, by decide⟩ (tb_8 17 rfl rfl) (tb_1 12 rfl rfl) (tb_8 14 rfl rfl) (tb_8 16 rfl rfl) (tb_0 31 rfl rfl) (show yX12_isGood.cls ≠ "java/lang/invoke/MethodHandle" ∧ yX12_isGood.cls ≠ "java/lang/invoke/VarHandle" ∧ (parseMethodDescriptor yX12_isGood.desc).map (fun d => d.parameters.length) = some 0 by decide +kernel) zs_blind (zs_ob hh240 ha (show RTg[11]? = some (0, 11, 0, fsX12) from rfl) (zCX12 hKn.1)) (fun U hU hW => ⟨rfl, by rw [hU]; exact hh240.l0, zKb s U hW.alike hKn, by rw [hU]; exact jv239⟩) hh240.2.2.1 hl237.1 (Nat.le_of_ble_eq_true rfl) (eX12_read (248, .invokevirtual 305, 3) (List.mem_of_getElem? (i := 105) rfl)) (fun r242 s242 t242 lo242 g242 f242 l242 => ?_)
            obtain ⟨z242, v242, q242, e242⟩ := f242
            cases q242
            rw [z242, g242]
            have hh242 : zh_ok D cA RTg ro sz H0 t239.heap lo242 := ⟨hh240.1, hh240.2.1, l242, hh240.2.2.2⟩
            refine W.eq (g2 := F0 m 251 ls237 [.int v242]) rfl ?_
            refine ff_if_eq hx hb (eX12_read (251, .ifCond .eq 18, 3) (List.mem_of_getElem? (i := 106) rfl)) (tgt := 269) rfl (fun c243 => ?_) (fun c243 => (by exfalso; omega))
            refine lv_aload_n hx hb (eX12_read (269, .aload_n 0, 1) (List.mem_of_getElem? (i := 114) rfl)) rfl (lv_at hl237 3 rfl) ?_
            obtain ⟨jt244, ⟨av244, fv244, bv244, f29244, f30244, f31244, hav244, hfv244, hbv244⟩, hu244⟩ := id jv239
            refine tz_get (r := 11) (k := 30) (t := (0, (-1), 120)) hx hb hh242 ha rfl rfl (hcl11 296 30 (0, (-1), 120) (by decide) rfl).1 f30244 (eX12_read (270, .getfield 296, 3) (List.mem_of_getElem? (i := 115) rfl)) ?_
            refine ff_if_lt hx hb (eX12_read (273, .ifCond .lt 9, 3) (List.mem_of_getElem? (i := 116) rfl)) (tgt := 282) rfl (fun c245 => (by exfalso; omega)) (fun c245 => ?_)
            refine lv_aload_n hx hb (eX12_read (276, .aload_n 0, 1) (List.mem_of_getElem? (i := 117) rfl)) rfl (lv_at hl237 3 rfl) ?_
            refine tz_get (r := 11) (k := 30) (t := (0, (-1), 120)) hx hb hh242 ha rfl rfl (hcl11 296 30 (0, (-1), 120) (by decide) rfl).1 f30244 (eX12_read (277, .getfield 296, 3) (List.mem_of_getElem? (i := 118) rfl)) ?_
            refine ff_i2l hx hb (eX12_read (280, .i2l, 1) (List.mem_of_getElem? (i := 119) rfl)) (fun v246 e246 => ?_)
            have hrg : rcG T r0S = x239 := by unfold rcG; rw [hx230, ← hrc, hx239]
            have hvd : v246.toInt = rdG T L fo.toInt gz hz0 := by unfold rdG; rw [if_neg (show ¬ fo.toInt = 0 by omega), if_neg (show ¬ fo.toInt = 1 by omega), if_neg (show ¬ fo.toInt = 2 by omega), if_neg (show ¬ fo.toInt = 3 by omega), if_neg (show ¬ fo.toInt = 4 by omega), if_neg (show ¬ fo.toInt = 5 by omega), hrg, if_neg (by omega)]; unfold v2G; dsimp only; rw [show endG T x239 = x239 from by unfold endG; rw [if_neg (by omega)]]; unfold vfG; rw [if_pos (by omega)]; omega
            exact W.lret hx hb hr (fun t ht hW => ⟨_, _, rfl, by rw [ht]; exact hh242.l0, by rw [ht]; exact kp239, by rw [ht]; exact g0239, Or.inr ⟨by omega, by omega, hvd.trans (rdG_any hL hT)⟩⟩) hh242.2.2.1 (eX12_read (281, .lreturn, 1) (List.mem_of_getElem? (i := 120) rfl))
          · skip
            refine lv_aload_n hx hb (eX12_read (243, .aload_n 0, 1) (List.mem_of_getElem? (i := 102) rfl)) rfl (lv_at hl237 3 rfl) ?_
            refine tz_rowV (As := []) (st := []) (b := a) (C := RX12) (Ts := gT) hx hb hml hown h2 (fun _ h => h) (hX12_readInterval l D cA ro sz H0 a T (x239) gz hz0 ha hT) ⟨rfl, rfl⟩ ⟨by decide, by decide⟩ ⟨by decide, by decide⟩ (tb_8 113 rfl rfl) (tb_1 12 rfl rfl) (tb_8 110 rfl rfl) (tb_8 112 rfl rfl) (tb_0 51 rfl rfl) (show yX12_readInterval.cls ≠ "java/lang/invoke/MethodHandle" ∧ yX12_readInterval.cls ≠ "java/lang/invoke/VarHandle" ∧ (parseMethodDescriptor yX12_readInterval.desc).map (fun d => d.parameters.length) = some 0 by decide +kernel) zs_blind (zs_ob hh240 ha (show RTg[11]? = some (0, 11, 0, fsX12) from rfl) (zCX12 hKn.1)) (fun U hU hW => ⟨rfl, by rw [hU]; exact hh240.l0, zKb s U hW.alike hKn, by rw [hU]; exact ⟨jv239, jg239⟩⟩) hh240.2.2.1 hl237.1 (Nat.le_of_ble_eq_true rfl) (eX12_read (244, .invokevirtual 436, 3) (List.mem_of_getElem? (i := 103) rfl)) (fun r247 s247 t247 lo247 g247 f247 l247 => ?_)
            obtain ⟨q247, z247, c247, jv247, jg247⟩ := f247
            cases q247
            rw [g247] at c247
            have hh247 : zh_ok D cA RTg ro sz H0 t247.heap lo247 := ⟨z247.1, z247.2.1, l247, z247.2.2.2⟩
            have kp247 := kp239.trans (c247.mono (ms' := rdK) (by decide))
            have gq247 := in_gQ (T := T) (r := x239) hT jv239.2.2
            generalize hx247 : inG T x239 = x247 at jv247 jg247 gq247
            have uu247 := jv247.2.2
            unfold vOK at uu247
            have g0247 := (c247.1 a 11 0 11 0 fsX12 ha rfl (by decide) (by decide)).trans g0239
            have jr247 := jr239.kept ha c247 (by decide)
            refine W.eq (g2 := F0 m 247 ls237 []) rfl ?_
            have hrg : rcG T r0S = x239 := by unfold rcG; rw [hx230, ← hrc, hx239]
            have hrd : rdG T L fo.toInt gz hz0 = v2G T L (inG T x239) := by unfold rdG; rw [if_neg (show ¬ fo.toInt = 0 by omega), if_neg (show ¬ fo.toInt = 1 by omega), if_neg (show ¬ fo.toInt = 2 by omega), if_neg (show ¬ fo.toInt = 3 by omega), if_neg (show ¬ fo.toInt = 4 by omega), if_neg (show ¬ fo.toInt = 5 by omega), hrg, if_pos (by omega)]
            rw [hx247] at hrd
            exact jn247b x247.2.1 x247.1 x247.2.2 v236 ls237 _ _ hh247 kp247 jv247 jg247 jr247 g0247 (by omega) hrd.symm (fun _ => gq247) (lv_sub hl237 [0, 3, 4] rfl)
        · skip
          refine lv_lload hx hb (eX12_read (221, .lload 6, 2) (List.mem_of_getElem? (i := 92) rfl)) (lv_at hl 0 rfl) ?_
          refine lv_goto hx hb (eX12_read (223, .goto 6, 3) (List.mem_of_getElem? (i := 93) rfl)) (tgt := 229) rfl ?_
          refine lv_lstore_n hx hb (eX12_read (229, .lstore_n 2, 1) (List.mem_of_getElem? (i := 95) rfl)) rfl hl (by decide) rfl (fun ls248 hl248 => ?_)
          refine lv_aload_n hx hb (eX12_read (230, .aload_n 0, 1) (List.mem_of_getElem? (i := 96) rfl)) rfl (lv_at hl248 3 rfl) ?_
          refine ff_bipush hx hb (eX12_read (231, .bipush 47, 2) (List.mem_of_getElem? (i := 97) rfl)) (by decide) (by decide) (fun v249 e249 => ?_)
          refine tz_rowV (As := [.int v249]) (st := []) (b := a) (C := RX12) (Ts := gT) hx hb hml hown h2 (fun _ h => h) (hX12_expect l D cA ro sz H0 a v249 47 T (gj) ha (by omega) (by decide)) ⟨rfl, rfl⟩ ⟨by decide, by decide⟩ ⟨by decide, by decide⟩ (tb_8 35 rfl rfl) (tb_1 12 rfl rfl) (tb_8 32 rfl rfl) (tb_8 34 rfl rfl) (tb_0 34 rfl rfl) (show yX12_expect.cls ≠ "java/lang/invoke/MethodHandle" ∧ yX12_expect.cls ≠ "java/lang/invoke/VarHandle" ∧ (parseMethodDescriptor yX12_expect.desc).map (fun d => d.parameters.length) = some 1 by decide +kernel) zs_blind (zs_ob hh0 ha (show RTg[11]? = some (0, 11, 0, fsX12) from rfl) (zCX12 hKn.1)) (fun U hU hW => ⟨rfl, by rw [hU]; exact hh0.l0, zKb s U hW.alike hKn, by rw [hU]; exact jl⟩) hh0.2.2.1 hl248.1 (Nat.le_of_ble_eq_true rfl) (eX12_read (233, .invokevirtual 325, 3) (List.mem_of_getElem? (i := 98) rfl)) (fun r250 s250 t250 lo250 g250 f250 l250 => ?_)
          obtain ⟨q250, z250, c250, jv250⟩ := f250
          cases q250
          rw [g250] at c250
          have hh250 : zh_ok D cA RTg ro sz H0 t250.heap lo250 := ⟨z250.1, z250.2.1, l250, z250.2.2.2⟩
          have kp250 := kpl.trans (c250.mono (ms' := rdK) (by decide))
          generalize hx250 : exG T 47 gj = x250 at jv250
          have uu250 := jv250.2.2
          unfold vOK at uu250
          have bb250 := byI_bd T x250.1
          have jg250 := jgl.kept ha c250 (by decide)
          have g0250 := (c250.1 a 11 0 11 0 fsX12 ha rfl (by decide) (by decide)).trans fw
          have jr250 := jrl.kept ha c250 (by decide)
          refine W.eq (g2 := F0 m 236 ls248 []) rfl ?_
          refine lv_aload_n hx hb (eX12_read (236, .aload_n 0, 1) (List.mem_of_getElem? (i := 99) rfl)) rfl (lv_at hl248 3 rfl) ?_
          refine tz_rowV (As := []) (st := []) (b := a) (C := RX12) (Ts := gT) hx hb hml hown h2 (fun _ h => h) (hX12_isGood l D cA ro sz H0 a T (x250) ha) ⟨rfl, rfl⟩ ⟨by decide, by decide⟩ ⟨by decide, by decide⟩ (tb_8 17 rfl rfl) (tb_1 12 rfl rfl) (tb_8 14 rfl rfl) (tb_8 16 rfl rfl) (tb_0 31 rfl rfl) (show yX12_isGood.cls ≠ "java/lang/invoke/MethodHandle" ∧ yX12_isGood.cls ≠ "java/lang/invoke/VarHandle" ∧ (parseMethodDescriptor yX12_isGood.desc).map (fun d => d.parameters.length) = some 0 by decide +kernel) zs_blind (zs_ob hh250 ha (show RTg[11]? = some (0, 11, 0, fsX12) from rfl) (zCX12 hKn.1)) (fun U hU hW => ⟨rfl, by rw [hU]; exact hh250.l0, zKb s U hW.alike hKn, by rw [hU]; exact jv250⟩) hh250.2.2.1 hl248.1 (Nat.le_of_ble_eq_true rfl) (eX12_read (237, .invokevirtual 305, 3) (List.mem_of_getElem? (i := 100) rfl)) (fun r251 s251 t251 lo251 g251 f251 l251 => ?_)
          obtain ⟨z251, v251, q251, e251⟩ := f251
          cases q251
          rw [z251, g251]
          have hh251 : zh_ok D cA RTg ro sz H0 t250.heap lo251 := ⟨hh250.1, hh250.2.1, l251, hh250.2.2.2⟩
          refine W.eq (g2 := F0 m 240 ls248 [.int v251]) rfl ?_
          refine ff_if_eq hx hb (eX12_read (240, .ifCond .eq 7, 3) (List.mem_of_getElem? (i := 101) rfl)) (tgt := 247) rfl (fun c252 => ?_) (fun c252 => ?_)
          · skip
            refine lv_aload_n hx hb (eX12_read (247, .aload_n 0, 1) (List.mem_of_getElem? (i := 104) rfl)) rfl (lv_at hl248 3 rfl) ?_
            refine tz_rowV (As := []) (st := []) (b := a) (C := RX12) (Ts := gT) hx hb hml hown h2 (fun _ h => h) (hX12_isGood l D cA ro sz H0 a T (x250) ha) ⟨rfl, rfl⟩ ⟨by decide, by decide⟩ ⟨by decide, by decide⟩ (tb_8 17 rfl rfl) (tb_1 12 rfl rfl) (tb_8 14 rfl rfl) (tb_8 16 rfl rfl) (tb_0 31 rfl rfl) (show yX12_isGood.cls ≠ "java/lang/invoke/MethodHandle" ∧ yX12_isGood.cls ≠ "java/lang/invoke/VarHandle" ∧ (parseMethodDescriptor yX12_isGood.desc).map (fun d => d.parameters.length) = some 0 by decide +kernel) zs_blind (zs_ob hh251 ha (show RTg[11]? = some (0, 11, 0, fsX12) from rfl) (zCX12 hKn.1)) (fun U hU hW => ⟨rfl, by rw [hU]; exact hh251.l0, zKb s U hW.alike hKn, by rw [hU]; exact jv250⟩) hh251.2.2.1 hl248.1 (Nat.le_of_ble_eq_true rfl) (eX12_read (248, .invokevirtual 305, 3) (List.mem_of_getElem? (i := 105) rfl)) (fun r253 s253 t253 lo253 g253 f253 l253 => ?_)
            obtain ⟨z253, v253, q253, e253⟩ := f253
            cases q253
            rw [z253, g253]
            have hh253 : zh_ok D cA RTg ro sz H0 t250.heap lo253 := ⟨hh251.1, hh251.2.1, l253, hh251.2.2.2⟩
            refine W.eq (g2 := F0 m 251 ls248 [.int v253]) rfl ?_
            refine ff_if_eq hx hb (eX12_read (251, .ifCond .eq 18, 3) (List.mem_of_getElem? (i := 106) rfl)) (tgt := 269) rfl (fun c254 => ?_) (fun c254 => (by exfalso; omega))
            refine lv_aload_n hx hb (eX12_read (269, .aload_n 0, 1) (List.mem_of_getElem? (i := 114) rfl)) rfl (lv_at hl248 3 rfl) ?_
            obtain ⟨jt255, ⟨av255, fv255, bv255, f29255, f30255, f31255, hav255, hfv255, hbv255⟩, hu255⟩ := id jv250
            refine tz_get (r := 11) (k := 30) (t := (0, (-1), 120)) hx hb hh253 ha rfl rfl (hcl11 296 30 (0, (-1), 120) (by decide) rfl).1 f30255 (eX12_read (270, .getfield 296, 3) (List.mem_of_getElem? (i := 115) rfl)) ?_
            refine ff_if_lt hx hb (eX12_read (273, .ifCond .lt 9, 3) (List.mem_of_getElem? (i := 116) rfl)) (tgt := 282) rfl (fun c256 => (by exfalso; omega)) (fun c256 => ?_)
            refine lv_aload_n hx hb (eX12_read (276, .aload_n 0, 1) (List.mem_of_getElem? (i := 117) rfl)) rfl (lv_at hl248 3 rfl) ?_
            refine tz_get (r := 11) (k := 30) (t := (0, (-1), 120)) hx hb hh253 ha rfl rfl (hcl11 296 30 (0, (-1), 120) (by decide) rfl).1 f30255 (eX12_read (277, .getfield 296, 3) (List.mem_of_getElem? (i := 118) rfl)) ?_
            refine ff_i2l hx hb (eX12_read (280, .i2l, 1) (List.mem_of_getElem? (i := 119) rfl)) (fun v257 e257 => ?_)
            have hrg : rcG T r0S = x250 := by unfold rcG; rw [hx230, ← hrc, hx250]
            have hvd : v257.toInt = rdG T L fo.toInt gz hz0 := by unfold rdG; rw [if_neg (show ¬ fo.toInt = 0 by omega), if_neg (show ¬ fo.toInt = 1 by omega), if_neg (show ¬ fo.toInt = 2 by omega), if_neg (show ¬ fo.toInt = 3 by omega), if_neg (show ¬ fo.toInt = 4 by omega), if_neg (show ¬ fo.toInt = 5 by omega), hrg, if_neg (by omega)]; unfold v2G; dsimp only; rw [show endG T x250 = x250 from by unfold endG; rw [if_neg (by omega)]]; unfold vfG; rw [if_pos (by omega)]; omega
            exact W.lret hx hb hr (fun t ht hW => ⟨_, _, rfl, by rw [ht]; exact hh253.l0, by rw [ht]; exact kp250, by rw [ht]; exact g0250, Or.inr ⟨by omega, by omega, hvd.trans (rdG_any hL hT)⟩⟩) hh253.2.2.1 (eX12_read (281, .lreturn, 1) (List.mem_of_getElem? (i := 120) rfl))
          · skip
            refine lv_aload_n hx hb (eX12_read (243, .aload_n 0, 1) (List.mem_of_getElem? (i := 102) rfl)) rfl (lv_at hl248 3 rfl) ?_
            refine tz_rowV (As := []) (st := []) (b := a) (C := RX12) (Ts := gT) hx hb hml hown h2 (fun _ h => h) (hX12_readInterval l D cA ro sz H0 a T (x250) gz hz0 ha hT) ⟨rfl, rfl⟩ ⟨by decide, by decide⟩ ⟨by decide, by decide⟩ (tb_8 113 rfl rfl) (tb_1 12 rfl rfl) (tb_8 110 rfl rfl) (tb_8 112 rfl rfl) (tb_0 51 rfl rfl) (show yX12_readInterval.cls ≠ "java/lang/invoke/MethodHandle" ∧ yX12_readInterval.cls ≠ "java/lang/invoke/VarHandle" ∧ (parseMethodDescriptor yX12_readInterval.desc).map (fun d => d.parameters.length) = some 0 by decide +kernel) zs_blind (zs_ob hh251 ha (show RTg[11]? = some (0, 11, 0, fsX12) from rfl) (zCX12 hKn.1)) (fun U hU hW => ⟨rfl, by rw [hU]; exact hh251.l0, zKb s U hW.alike hKn, by rw [hU]; exact ⟨jv250, jg250⟩⟩) hh251.2.2.1 hl248.1 (Nat.le_of_ble_eq_true rfl) (eX12_read (244, .invokevirtual 436, 3) (List.mem_of_getElem? (i := 103) rfl)) (fun r258 s258 t258 lo258 g258 f258 l258 => ?_)
            obtain ⟨q258, z258, c258, jv258, jg258⟩ := f258
            cases q258
            rw [g258] at c258
            have hh258 : zh_ok D cA RTg ro sz H0 t258.heap lo258 := ⟨z258.1, z258.2.1, l258, z258.2.2.2⟩
            have kp258 := kp250.trans (c258.mono (ms' := rdK) (by decide))
            have gq258 := in_gQ (T := T) (r := x250) hT jv250.2.2
            generalize hx258 : inG T x250 = x258 at jv258 jg258 gq258
            have uu258 := jv258.2.2
            unfold vOK at uu258
            have g0258 := (c258.1 a 11 0 11 0 fsX12 ha rfl (by decide) (by decide)).trans g0250
            have jr258 := jr250.kept ha c258 (by decide)
            refine W.eq (g2 := F0 m 247 ls248 []) rfl ?_
            have hrg : rcG T r0S = x250 := by unfold rcG; rw [hx230, ← hrc, hx250]
            have hrd : rdG T L fo.toInt gz hz0 = v2G T L (inG T x250) := by unfold rdG; rw [if_neg (show ¬ fo.toInt = 0 by omega), if_neg (show ¬ fo.toInt = 1 by omega), if_neg (show ¬ fo.toInt = 2 by omega), if_neg (show ¬ fo.toInt = 3 by omega), if_neg (show ¬ fo.toInt = 4 by omega), if_neg (show ¬ fo.toInt = 5 by omega), hrg, if_pos (by omega)]
            rw [hx258] at hrd
            exact jn247b x258.2.1 x258.1 x258.2.2 vv ls248 _ _ hh258 kp258 jv258 jg258 jr258 g0258 (by omega) hrd.symm (fun _ => gq258) (lv_sub hl248 [0, 3, 4] rfl)
      have loop : ∀ (m0 i : Nat) (gj : uS) (vv cv : Int64) (kv : Int32) (ls : Array Slot) (H : Heap) (lo0 : List Loc), i + m0 = 9 → kv.toInt = (i : Int) → (0 ≤ vv.toInt ∧ vv.toInt ≤ nB i) → (if gj.2.1 < 0 then (dcL T m0 vv.toInt (i : Int) gj).2 else gj) = (if x230.2.1 < 0 then (dcL T 9 0 0 x230).2 else x230) → zh_ok D cA RTg ro sz H0 H lo0 → zc_kept D RTg ro rdK s.heap H → jV D cA ro H a T gj → jG D cA ro H a 0 gz hz0 → jR D cA ro H a L → zh_f D H a 11 0 = .int v10 → lv_has ls 8 [(6, .long vv), (5, .int kv), (2, .long cv), (0, .ref a), (1, .int fo)] → W p l e (headSpec (gW yX12_read cX12_read 8 (some .long)) { frames := 6, cells := 0, slots := 0, locals := 167 }).room s m ([.ref a, .int fo] : List Value).toArray below meth c H lo0 0 0 (MQ below (fun _ st oc t => ∃ (r : Int64) (w : Int32), oc = .returned (some (.long r)) ∧ zh_ok D cA RTg ro sz H0 t.heap [] ∧ zc_kept D RTg ro rdK st.heap t.heap ∧ zh_f D t.heap a 11 0 = .int w ∧ spRd fo.toInt T L w.toInt r.toInt) ([.ref a, .int fo] : List Value).toArray s 0 0 (zy_fr sz)) (F0 m 158 ls []) := by
        intro m0
        induction m0 with
        | zero =>
          intro i gj vv cv kv ls H lo0 hi hkv hvv htc hh0 kpl jl jgl jrl fw hl
          have hul := jl.2.2
          unfold vOK at hul
          have hbj := byI_bd T gj.1
          refine lv_aload_n hx hb (eX12_read (158, .aload_n 0, 1) (List.mem_of_getElem? (i := 62) rfl)) rfl (lv_at hl 3 rfl) ?_
          refine tz_rowV (As := []) (st := []) (b := a) (C := RX12) (Ts := gT) hx hb hml hown h2 (fun _ h => h) (hX12_isGood l D cA ro sz H0 a T (gj) ha) ⟨rfl, rfl⟩ ⟨by decide, by decide⟩ ⟨by decide, by decide⟩ (tb_8 17 rfl rfl) (tb_1 12 rfl rfl) (tb_8 14 rfl rfl) (tb_8 16 rfl rfl) (tb_0 31 rfl rfl) (show yX12_isGood.cls ≠ "java/lang/invoke/MethodHandle" ∧ yX12_isGood.cls ≠ "java/lang/invoke/VarHandle" ∧ (parseMethodDescriptor yX12_isGood.desc).map (fun d => d.parameters.length) = some 0 by decide +kernel) zs_blind (zs_ob hh0 ha (show RTg[11]? = some (0, 11, 0, fsX12) from rfl) (zCX12 hKn.1)) (fun U hU hW => ⟨rfl, by rw [hU]; exact hh0.l0, zKb s U hW.alike hKn, by rw [hU]; exact jl⟩) hh0.2.2.1 hl.1 (Nat.le_of_ble_eq_true rfl) (eX12_read (159, .invokevirtual 305, 3) (List.mem_of_getElem? (i := 63) rfl)) (fun r259 s259 t259 lo259 g259 f259 l259 => ?_)
          obtain ⟨z259, v259, q259, e259⟩ := f259
          cases q259
          rw [z259, g259]
          have hh259 : zh_ok D cA RTg ro sz H0 H lo259 := ⟨hh0.1, hh0.2.1, l259, hh0.2.2.2⟩
          refine W.eq (g2 := F0 m 162 ls [.int v259]) rfl ?_
          refine ff_if_eq hx hb (eX12_read (162, .ifCond .eq 54, 3) (List.mem_of_getElem? (i := 64) rfl)) (tgt := 216) rfl (fun c260 => ?_) (fun c260 => ?_)
          · skip
            have hrc : gj = _ := (by rw [if_neg (by omega)] : _ = gj).symm.trans htc
            exact jn216 gj vv cv kv ls _ _ hh259 kpl jl jgl jrl fw hrc (lv_sub hl [0, 1, 2, 3, 4] rfl)
          · skip
            refine lv_iload hx hb (eX12_read (165, .iload 5, 2) (List.mem_of_getElem? (i := 65) rfl)) (lv_at hl 1 rfl) ?_
            refine ff_bipush hx hb (eX12_read (167, .bipush 9, 2) (List.mem_of_getElem? (i := 66) rfl)) (by decide) (by decide) (fun v261 e261 => ?_)
            refine ff_icmp_ge hx hb (eX12_read (169, .if_icmp .ge 47, 3) (List.mem_of_getElem? (i := 67) rfl)) (tgt := 216) rfl (fun c262 => ?_) (fun c262 => (by exfalso; omega))
            have hrc : gj = _ := (by rw [if_pos (show gj.2.1 < 0 by omega)] <;> rfl : _ = gj).symm.trans htc
            exact jn216 gj vv cv kv ls _ _ hh259 kpl jl jgl jrl fw hrc (lv_sub hl [0, 1, 2, 3, 4] rfl)
        | succ m0 ih =>
          intro i gj vv cv kv ls H lo0 hi hkv hvv htc hh0 kpl jl jgl jrl fw hl
          have hul := jl.2.2
          unfold vOK at hul
          have hbj := byI_bd T gj.1
          have hB8 := nB_8 i (by omega)
          refine lv_aload_n hx hb (eX12_read (158, .aload_n 0, 1) (List.mem_of_getElem? (i := 62) rfl)) rfl (lv_at hl 3 rfl) ?_
          refine tz_rowV (As := []) (st := []) (b := a) (C := RX12) (Ts := gT) hx hb hml hown h2 (fun _ h => h) (hX12_isGood l D cA ro sz H0 a T (gj) ha) ⟨rfl, rfl⟩ ⟨by decide, by decide⟩ ⟨by decide, by decide⟩ (tb_8 17 rfl rfl) (tb_1 12 rfl rfl) (tb_8 14 rfl rfl) (tb_8 16 rfl rfl) (tb_0 31 rfl rfl) (show yX12_isGood.cls ≠ "java/lang/invoke/MethodHandle" ∧ yX12_isGood.cls ≠ "java/lang/invoke/VarHandle" ∧ (parseMethodDescriptor yX12_isGood.desc).map (fun d => d.parameters.length) = some 0 by decide +kernel) zs_blind (zs_ob hh0 ha (show RTg[11]? = some (0, 11, 0, fsX12) from rfl) (zCX12 hKn.1)) (fun U hU hW => ⟨rfl, by rw [hU]; exact hh0.l0, zKb s U hW.alike hKn, by rw [hU]; exact jl⟩) hh0.2.2.1 hl.1 (Nat.le_of_ble_eq_true rfl) (eX12_read (159, .invokevirtual 305, 3) (List.mem_of_getElem? (i := 63) rfl)) (fun r263 s263 t263 lo263 g263 f263 l263 => ?_)
          obtain ⟨z263, v263, q263, e263⟩ := f263
          cases q263
          rw [z263, g263]
          have hh263 : zh_ok D cA RTg ro sz H0 H lo263 := ⟨hh0.1, hh0.2.1, l263, hh0.2.2.2⟩
          refine W.eq (g2 := F0 m 162 ls [.int v263]) rfl ?_
          refine ff_if_eq hx hb (eX12_read (162, .ifCond .eq 54, 3) (List.mem_of_getElem? (i := 64) rfl)) (tgt := 216) rfl (fun c264 => ?_) (fun c264 => ?_)
          · skip
            have hrc : gj = _ := (by rw [if_neg (by omega)] : _ = gj).symm.trans htc
            exact jn216 gj vv cv kv ls _ _ hh263 kpl jl jgl jrl fw hrc (lv_sub hl [0, 1, 2, 3, 4] rfl)
          · skip
            refine lv_iload hx hb (eX12_read (165, .iload 5, 2) (List.mem_of_getElem? (i := 65) rfl)) (lv_at hl 1 rfl) ?_
            refine ff_bipush hx hb (eX12_read (167, .bipush 9, 2) (List.mem_of_getElem? (i := 66) rfl)) (by decide) (by decide) (fun v265 e265 => ?_)
            refine ff_icmp_ge hx hb (eX12_read (169, .if_icmp .ge 47, 3) (List.mem_of_getElem? (i := 67) rfl)) (tgt := 216) rfl (fun c266 => (by exfalso; omega)) (fun c266 => ?_)
            refine lv_aload_n hx hb (eX12_read (172, .aload_n 0, 1) (List.mem_of_getElem? (i := 68) rfl)) rfl (lv_at hl 3 rfl) ?_
            refine tz_rowV (As := []) (st := []) (b := a) (C := RX12) (Ts := gT) hx hb hml hown h2 (fun _ h => h) (hX12_sign l D cA ro sz H0 a T (gj) ha) ⟨rfl, rfl⟩ ⟨by decide, by decide⟩ ⟨by decide, by decide⟩ (tb_8 21 rfl rfl) (tb_1 12 rfl rfl) (tb_8 18 rfl rfl) (tb_8 20 rfl rfl) (tb_0 32 rfl rfl) (show yX12_sign.cls ≠ "java/lang/invoke/MethodHandle" ∧ yX12_sign.cls ≠ "java/lang/invoke/VarHandle" ∧ (parseMethodDescriptor yX12_sign.desc).map (fun d => d.parameters.length) = some 0 by decide +kernel) zs_blind (zs_ob hh263 ha (show RTg[11]? = some (0, 11, 0, fsX12) from rfl) (zCX12 hKn.1)) (fun U hU hW => ⟨rfl, by rw [hU]; exact hh263.l0, zKb s U hW.alike hKn, by rw [hU]; exact jl⟩) hh263.2.2.1 hl.1 (Nat.le_of_ble_eq_true rfl) (eX12_read (173, .invokevirtual 309, 3) (List.mem_of_getElem? (i := 69) rfl)) (fun r267 s267 t267 lo267 g267 f267 l267 => ?_)
            obtain ⟨z267, v267, q267, e267⟩ := f267
            cases q267
            rw [z267, g267]
            have hh267 : zh_ok D cA RTg ro sz H0 H lo267 := ⟨hh263.1, hh263.2.1, l267, hh263.2.2.2⟩
            refine W.eq (g2 := F0 m 176 ls [.int v267]) rfl ?_
            refine zu_S (vs := [.int v267]) (rest := []) hx hb hml hown hts0 zu_BT (hX12_isDigit l v267) ⟨rfl, rfl⟩ ⟨by decide, by decide⟩ ⟨by decide, by decide⟩ (tb_8 27 rfl rfl) (tb_1 12 rfl rfl) (tb_8 25 rfl rfl) (tb_8 26 rfl rfl) (show yX12_isDigit.cls ≠ "java/lang/invoke/MethodHandle" ∧ yX12_isDigit.cls ≠ "java/lang/invoke/VarHandle" ∧ (parseMethodDescriptor yX12_isDigit.desc).map (fun d => d.parameters.length) = some 1 by decide +kernel) rfl (fun _ _ _ => trivial) hl.1 (Nat.le_of_ble_eq_true rfl) (eX12_read (176, .invokestatic 319, 3) (List.mem_of_getElem? (i := 70) rfl)) (fun w268 f268 => ?_)
            obtain ⟨v268, rfl, e268⟩ := f268
            refine ff_if_eq hx hb (eX12_read (179, .ifCond .eq 37, 3) (List.mem_of_getElem? (i := 71) rfl)) (tgt := 216) rfl (fun c269 => ?_) (fun c269 => ?_)
            · skip
              have hnd : ¬ isD (byI T gj.1) := by omega
              have hrc : gj = _ := (by rw [if_pos (show gj.2.1 < 0 by omega)]; show (if _ then _ else _ : (Int × Int) × uS).2 = gj; rw [if_neg hnd] : _ = gj).symm.trans htc
              exact jn216 gj vv cv kv ls _ _ hh267 kpl jl jgl jrl fw hrc (lv_sub hl [0, 1, 2, 3, 4] rfl)
            · skip
              have hdg : isD (byI T gj.1) := by omega
              have hdx := hdg.1
              have hdy := hdg.2
              refine ff_ldc2 (n := 10) hx hb hown h2 (clX12_ok 373 10 (List.mem_of_getElem? (i := 32) rfl)) (eX12_read (182, .ldc2_w 373, 3) (List.mem_of_getElem? (i := 72) rfl)) (fun v270 e270 => ?_)
              refine lv_lload hx hb (eX12_read (185, .lload 6, 2) (List.mem_of_getElem? (i := 73) rfl)) (lv_at hl 0 rfl) ?_
              refine ff_lmulL hx hb (eX12_read (187, .lmul, 1) (List.mem_of_getElem? (i := 74) rfl)) (e270) (by omega) (by omega) (fun v271 e271 => ?_)
              refine lv_aload_n hx hb (eX12_read (188, .aload_n 0, 1) (List.mem_of_getElem? (i := 75) rfl)) rfl (lv_at hl 3 rfl) ?_
              refine tz_rowV (As := []) (st := [.long v271]) (b := a) (C := RX12) (Ts := gT) hx hb hml hown h2 (fun _ h => h) (hX12_sign l D cA ro sz H0 a T (gj) ha) ⟨rfl, rfl⟩ ⟨by decide, by decide⟩ ⟨by decide, by decide⟩ (tb_8 21 rfl rfl) (tb_1 12 rfl rfl) (tb_8 18 rfl rfl) (tb_8 20 rfl rfl) (tb_0 32 rfl rfl) (show yX12_sign.cls ≠ "java/lang/invoke/MethodHandle" ∧ yX12_sign.cls ≠ "java/lang/invoke/VarHandle" ∧ (parseMethodDescriptor yX12_sign.desc).map (fun d => d.parameters.length) = some 0 by decide +kernel) zs_blind (zs_ob hh267 ha (show RTg[11]? = some (0, 11, 0, fsX12) from rfl) (zCX12 hKn.1)) (fun U hU hW => ⟨rfl, by rw [hU]; exact hh267.l0, zKb s U hW.alike hKn, by rw [hU]; exact jl⟩) hh267.2.2.1 hl.1 (Nat.le_of_ble_eq_true rfl) (eX12_read (189, .invokevirtual 309, 3) (List.mem_of_getElem? (i := 76) rfl)) (fun r272 s272 t272 lo272 g272 f272 l272 => ?_)
              obtain ⟨z272, v272, q272, e272⟩ := f272
              cases q272
              rw [z272, g272]
              have hh272 : zh_ok D cA RTg ro sz H0 H lo272 := ⟨hh267.1, hh267.2.1, l272, hh267.2.2.2⟩
              refine W.eq (g2 := F0 m 192 ls [.int v272, .long v271]) rfl ?_
              refine ff_i2l hx hb (eX12_read (192, .i2l, 1) (List.mem_of_getElem? (i := 77) rfl)) (fun v273 e273 => ?_)
              refine ff_ladd hx hb (eX12_read (193, .ladd, 1) (List.mem_of_getElem? (i := 78) rfl)) (by omega) (by omega) (fun v274 e274 => ?_)
              refine ff_ldc2 (n := 48) hx hb hown h2 (clX12_ok 375 48 (List.mem_of_getElem? (i := 33) rfl)) (eX12_read (194, .ldc2_w 375, 3) (List.mem_of_getElem? (i := 79) rfl)) (fun v275 e275 => ?_)
              refine ff_lsub hx hb (eX12_read (197, .lsub, 1) (List.mem_of_getElem? (i := 80) rfl)) (by omega) (by omega) (fun v276 e276 => ?_)
              refine lv_lstore hx hb (eX12_read (198, .lstore 6, 2) (List.mem_of_getElem? (i := 81) rfl)) hl (by decide) rfl (fun ls277 hl277 => ?_)
              refine ff_iinc (k := 1) hx hb (eX12_read (200, .iinc 5 1, 3) (List.mem_of_getElem? (i := 82) rfl)) hl277 rfl (by decide) (by decide) (by decide) (by omega) (by omega) (fun v278 e278 ls278 hl278 => ?_)
              refine lv_aload_n hx hb (eX12_read (203, .aload_n 0, 1) (List.mem_of_getElem? (i := 83) rfl)) rfl (lv_at hl278 3 rfl) ?_
              refine lv_dup hx hb (eX12_read (204, .dup, 1) (List.mem_of_getElem? (i := 84) rfl)) rfl ?_
              obtain ⟨jt279, ⟨av279, fv279, bv279, f29279, f30279, f31279, hav279, hfv279, hbv279⟩, hu279⟩ := id jl
              refine tz_get (r := 11) (k := 29) (t := (0, 0, 120)) hx hb hh272 ha rfl rfl (hcl11 293 29 (0, 0, 120) (by decide) rfl).1 f29279 (eX12_read (205, .getfield 293, 3) (List.mem_of_getElem? (i := 85) rfl)) ?_
              refine ff_iconst hx hb (eX12_read (208, .iconst 1, 1) (List.mem_of_getElem? (i := 86) rfl)) (by decide) (by decide) (fun v280 e280 => ?_)
              have ha9281 : av279.toInt + v280.toInt ≤ 121 ∧ 0 ≤ av279.toInt := by omega
              refine ff_iadd hx hb (eX12_read (209, .iadd, 1) (List.mem_of_getElem? (i := 87) rfl)) (by omega) (by omega) (fun v281 e281 => ?_)
              have hlt := byI_lt (T := T) (a := gj.1) (by omega) (by omega)
              refine tz_put (r := 11) (k := 29) (t := (0, 0, 120)) hx hb hD hh272 ha rfl rfl ((hcl11 293 29 (0, 0, 120) (by decide) rfl).2 (by decide)) (tz_i (by omega) (by omega)) (eX12_read (210, .putfield 293, 3) (List.mem_of_getElem? (i := 88) rfl)) (fun H282 lo282 hh282 hf282 hk282 _ hq282 => ?_)
              have mf282_a_30 := (hk282.1 a 11 30 11 0 fsX12 ha rfl (by decide) (by decide)).trans f30279
              have mf282_a_31 := (hk282.1 a 11 31 11 0 fsX12 ha rfl (by decide) (by decide)).trans f31279
              have kp282 := kpl.trans (hk282.mono (ms' := rdK) (fun x hx => by cases List.mem_singleton.mp hx; decide))
              have jv282 : jV D cA ro H282 a T (gj.1 + 1, gj.2) := ⟨jl.1.kept ha hk282 (by decide) (by decide) (by decide), ⟨_, _, _, hf282, mf282_a_30, mf282_a_31, by show _ = gj.1 + 1; omega, hfv279, hbv279⟩, adG_ok jl.2.2 (by omega)⟩
              have jg282 := jgl.kept ha hk282 (by decide)
              have uv282 := jv282.2.2
              unfold vOK at uv282
              have bb282 := byI_bd T (gj.1 + 1, gj.2).1
              have g0282 := (hk282.1 a 11 0 11 0 fsX12 ha rfl (by decide) (by decide)).trans fw
              have jr282 := jrl.kept ha hk282 (by decide)
              refine lv_goto hx hb (eX12_read (213, .goto (-55), 3) (List.mem_of_getElem? (i := 89) rfl)) (tgt := 158) rfl ?_
              exact ih (i + 1) (gj.1 + 1, gj.2) v276 cv v278 ls278 _ _ (by omega) (by omega) ⟨by omega, by show _ ≤ nB i * 10 + 9; omega⟩ (by rw [← htc, if_pos (show ((gj.1 + 1, gj.2) : uS).2.1 < 0 by show gj.2.1 < 0; omega), if_pos (show gj.2.1 < 0 by omega)]; show _ = (if _ then _ else _ : (Int × Int) × uS).2; rw [if_pos hdg, ← show v276.toInt = 10 * vv.toInt + byI T gj.1 - 48 by omega] <;> rfl) hh282 kp282 jv282 jg282 jr282 g0282 (lv_sub hl278 [1, 0, 2, 3, 4] rfl)
      exact loop 9 0 x230 v233 v172 v231 ls234 _ _ (by omega) (by omega) ⟨by omega, by show _ ≤ (0 : Int); omega⟩ (by rw [show v233.toInt = 0 by omega] <;> rfl) hh230 kp230 jv230 jg230 jr230 g0230 (lv_sub hl234 [0, 1, 2, 3, 4] rfl)
    by_cases q174_0 : fo.toInt = 0
    · refine lv_tableIn hx hb (eX12_read (44, .tableswitch 102 0 5 #[40, 47, 60, 81, 88, 95], 40) (List.mem_of_getElem? (i := 24) rfl)) gl gh (off := 40) (by rw [q174_0] <;> rfl) (tgt := 84) rfl ?_
      refine lv_aload_n hx hb (eX12_read (84, .aload_n 0, 1) (List.mem_of_getElem? (i := 25) rfl)) rfl (lv_at hl173 1 rfl) ?_
      refine tz_rowV (As := []) (st := []) (b := a) (C := RX12) (Ts := gT) hx hb hml hown h2 (fun _ h => h) (hX12_readPlain l D cA ro sz H0 a   T (r0S) 0 gz hz0 ha (by decide) hT ) ⟨rfl, rfl⟩ ⟨by decide, by decide⟩ ⟨by decide, by decide⟩ (tb_8 64 rfl rfl) (tb_1 12 rfl rfl) (tb_8 61 rfl rfl) (tb_8 63 rfl rfl) (tb_0 40 rfl rfl) (show yX12_readPlain.cls ≠ "java/lang/invoke/MethodHandle" ∧ yX12_readPlain.cls ≠ "java/lang/invoke/VarHandle" ∧ (parseMethodDescriptor yX12_readPlain.desc).map (fun d => d.parameters.length) = some 0 by decide +kernel) zs_blind (zs_ob hh15 ha (show RTg[11]? = some (0, 11, 0, fsX12) from rfl) (zCX12 hKn.1)) (fun U hU hW => ⟨rfl, by rw [hU]; exact hh15.l0, zKb s U hW.alike hKn, by rw [hU]; exact ⟨jv15, jg0⟩⟩) hh15.2.2.1 hl173.1 (Nat.le_of_ble_eq_true rfl) (eX12_read (85, .invokevirtual 433, 3) (List.mem_of_getElem? (i := 26) rfl)) (fun r283 s283 t283 lo283 g283 f283 l283 => ?_)
      obtain ⟨q283, z283, c283, jv283, jg283⟩ := f283
      cases q283
      rw [g283] at c283
      have hh283 : zh_ok D cA RTg ro sz H0 t283.heap lo283 := ⟨z283.1, z283.2.1, l283, z283.2.2.2⟩
      have kp283 := kp15.trans (c283.mono (ms' := rdK) (by decide))
      generalize hx283 : rpG T r0S = x283 at jv283 jg283
      have uu283 := jv283.2.2
      unfold vOK at uu283
      have bb283 := byI_bd T x283.2.1
      have g0283 := (c283.1 a 11 0 11 0 fsX12 ha rfl (by decide) (by decide)).trans g015
      have jr283 := jr15.kept ha c283 (by decide)
      refine W.eq (g2 := F0 m 88 ls173 []) rfl ?_
      refine lv_goto hx hb (eX12_read (88, .goto 159, 3) (List.mem_of_getElem? (i := 27) rfl)) (tgt := 247) rfl ?_
      have hrd : rdG T L fo.toInt gz hz0 = v1G T L (rpG T r0S) := by unfold rdG; rw [if_pos (show fo.toInt = 0 by omega)]
      have hxe : rpG T r0S = (x283.1, x283.2) := by (rw [← hx283]) <;> rfl
      have hgq : gQ (rpG T r0S).1 := fun _ => (rp_gO hT hvk).1
      rw [hxe] at hrd hgq
      exact jn247a x283.1 hz0 x283.2 v172 ls173 _ _ hh283 kp283 jv283 jg283 jr283 g0283 (by omega) hrd.symm (fun _ => hgq) (lv_sub hl173 [0, 1, 2] rfl)
    by_cases q174_1 : fo.toInt = 1
    · refine lv_tableIn hx hb (eX12_read (44, .tableswitch 102 0 5 #[40, 47, 60, 81, 88, 95], 40) (List.mem_of_getElem? (i := 24) rfl)) gl gh (off := 47) (by rw [q174_1] <;> rfl) (tgt := 91) rfl ?_
      refine lv_aload_n hx hb (eX12_read (91, .aload_n 0, 1) (List.mem_of_getElem? (i := 28) rfl)) rfl (lv_at hl173 1 rfl) ?_
      refine ff_iconst hx hb (eX12_read (92, .iconst 1, 1) (List.mem_of_getElem? (i := 29) rfl)) (by decide) (by decide) (fun v284 e284 => ?_)
      refine tz_rowV (As := [.int v284]) (st := []) (b := a) (C := RX12) (Ts := gT) hx hb hml hown h2 (fun _ h => h) (hX12_clearPart l D cA ro sz H0 a v284 1 T (r0S) 0 gz hz0 ha (by decide) hT (by omega)) ⟨rfl, rfl⟩ ⟨by decide, by decide⟩ ⟨by decide, by decide⟩ (tb_8 68 rfl rfl) (tb_1 12 rfl rfl) (tb_8 65 rfl rfl) (tb_8 67 rfl rfl) (tb_0 41 rfl rfl) (show yX12_clearPart.cls ≠ "java/lang/invoke/MethodHandle" ∧ yX12_clearPart.cls ≠ "java/lang/invoke/VarHandle" ∧ (parseMethodDescriptor yX12_clearPart.desc).map (fun d => d.parameters.length) = some 1 by decide +kernel) zs_blind (zs_ob hh15 ha (show RTg[11]? = some (0, 11, 0, fsX12) from rfl) (zCX12 hKn.1)) (fun U hU hW => ⟨rfl, by rw [hU]; exact hh15.l0, zKb s U hW.alike hKn, by rw [hU]; exact ⟨jv15, jg0⟩⟩) hh15.2.2.1 hl173.1 (Nat.le_of_ble_eq_true rfl) (eX12_read (93, .invokevirtual 384, 3) (List.mem_of_getElem? (i := 30) rfl)) (fun r285 s285 t285 lo285 g285 f285 l285 => ?_)
      obtain ⟨q285, z285, c285, jv285, jg285⟩ := f285
      cases q285
      rw [g285] at c285
      have hh285 : zh_ok D cA RTg ro sz H0 t285.heap lo285 := ⟨z285.1, z285.2.1, l285, z285.2.2.2⟩
      have kp285 := kp15.trans (c285.mono (ms' := rdK) (by decide))
      generalize hx285 : ((clG 1, r0S) : gsS) = x285 at jv285 jg285
      have uu285 := jv285.2.2
      unfold vOK at uu285
      have bb285 := byI_bd T x285.2.1
      have g0285 := (c285.1 a 11 0 11 0 fsX12 ha rfl (by decide) (by decide)).trans g015
      have jr285 := jr15.kept ha c285 (by decide)
      refine W.eq (g2 := F0 m 96 ls173 []) rfl ?_
      refine lv_aload_n hx hb (eX12_read (96, .aload_n 0, 1) (List.mem_of_getElem? (i := 31) rfl)) rfl (lv_at hl173 1 rfl) ?_
      refine ff_iconst hx hb (eX12_read (97, .iconst 0, 1) (List.mem_of_getElem? (i := 32) rfl)) (by decide) (by decide) (fun v286 e286 => ?_)
      refine tz_rowV (As := [.int v286]) (st := []) (b := a) (C := RX12) (Ts := gT) hx hb hml hown h2 (fun _ h => h) (hX12_readDate l D cA ro sz H0 a v286 0 T (x285.2) 0 x285.1 hz0 ha (by decide) hT (by omega) (by decide)) ⟨rfl, rfl⟩ ⟨by decide, by decide⟩ ⟨by decide, by decide⟩ (tb_8 90 rfl rfl) (tb_1 12 rfl rfl) (tb_8 87 rfl rfl) (tb_8 89 rfl rfl) (tb_0 46 rfl rfl) (show yX12_readDate.cls ≠ "java/lang/invoke/MethodHandle" ∧ yX12_readDate.cls ≠ "java/lang/invoke/VarHandle" ∧ (parseMethodDescriptor yX12_readDate.desc).map (fun d => d.parameters.length) = some 1 by decide +kernel) zs_blind (zs_ob hh285 ha (show RTg[11]? = some (0, 11, 0, fsX12) from rfl) (zCX12 hKn.1)) (fun U hU hW => ⟨rfl, by rw [hU]; exact hh285.l0, zKb s U hW.alike hKn, by rw [hU]; exact ⟨jv285, jg285⟩⟩) hh285.2.2.1 hl173.1 (Nat.le_of_ble_eq_true rfl) (eX12_read (98, .invokevirtual 387, 3) (List.mem_of_getElem? (i := 33) rfl)) (fun r287 s287 t287 lo287 g287 f287 l287 => ?_)
      obtain ⟨q287, z287, c287, jv287, jg287, -⟩ := f287
      cases q287
      rw [g287] at c287
      have hh287 : zh_ok D cA RTg ro sz H0 t287.heap lo287 := ⟨z287.1, z287.2.1, l287, z287.2.2.2⟩
      have kp287 := kp285.trans (c287.mono (ms' := rdK) (by decide))
      generalize hx287 : drG T 0 (x285.1, x285.2) = x287 at jv287 jg287
      have uu287 := jv287.2.2
      unfold vOK at uu287
      have bb287 := byI_bd T x287.2.1
      have g0287 := (c287.1 a 11 0 11 0 fsX12 ha rfl (by decide) (by decide)).trans g0285
      have jr287 := jr285.kept ha c287 (by decide)
      refine W.eq (g2 := F0 m 101 ls173 []) rfl ?_
      refine lv_goto hx hb (eX12_read (101, .goto 146, 3) (List.mem_of_getElem? (i := 34) rfl)) (tgt := 247) rfl ?_
      have hrd : rdG T L fo.toInt gz hz0 = v1G T L (drG T 0 (clG 1, r0S)) := by unfold rdG; rw [if_neg (show ¬ fo.toInt = 0 by omega), if_pos (show fo.toInt = 1 by omega)]
      have hxe : drG T 0 (clG 1, r0S) = (x287.1, x287.2) := by (rw [← hx287, ← hx285]) <;> rfl
      have hgq : gQ (drG T 0 (clG 1, r0S)).1 := fun _ => (dr_gO (x := (clG 1, r0S)) hT ⟨gB_cl (by decide), hvk⟩).1
      rw [hxe] at hrd hgq
      exact jn247a x287.1 hz0 x287.2 v172 ls173 _ _ hh287 kp287 jv287 jg287 jr287 g0287 (by omega) hrd.symm (fun _ => hgq) (lv_sub hl173 [0, 1, 2] rfl)
    by_cases q174_2 : fo.toInt = 2
    · refine lv_tableIn hx hb (eX12_read (44, .tableswitch 102 0 5 #[40, 47, 60, 81, 88, 95], 40) (List.mem_of_getElem? (i := 24) rfl)) gl gh (off := 60) (by rw [q174_2] <;> rfl) (tgt := 104) rfl ?_
      refine lv_aload_n hx hb (eX12_read (104, .aload_n 0, 1) (List.mem_of_getElem? (i := 35) rfl)) rfl (lv_at hl173 1 rfl) ?_
      refine ff_iconst hx hb (eX12_read (105, .iconst 2, 1) (List.mem_of_getElem? (i := 36) rfl)) (by decide) (by decide) (fun v288 e288 => ?_)
      refine tz_rowV (As := [.int v288]) (st := []) (b := a) (C := RX12) (Ts := gT) hx hb hml hown h2 (fun _ h => h) (hX12_clearPart l D cA ro sz H0 a v288 2 T (r0S) 0 gz hz0 ha (by decide) hT (by omega)) ⟨rfl, rfl⟩ ⟨by decide, by decide⟩ ⟨by decide, by decide⟩ (tb_8 68 rfl rfl) (tb_1 12 rfl rfl) (tb_8 65 rfl rfl) (tb_8 67 rfl rfl) (tb_0 41 rfl rfl) (show yX12_clearPart.cls ≠ "java/lang/invoke/MethodHandle" ∧ yX12_clearPart.cls ≠ "java/lang/invoke/VarHandle" ∧ (parseMethodDescriptor yX12_clearPart.desc).map (fun d => d.parameters.length) = some 1 by decide +kernel) zs_blind (zs_ob hh15 ha (show RTg[11]? = some (0, 11, 0, fsX12) from rfl) (zCX12 hKn.1)) (fun U hU hW => ⟨rfl, by rw [hU]; exact hh15.l0, zKb s U hW.alike hKn, by rw [hU]; exact ⟨jv15, jg0⟩⟩) hh15.2.2.1 hl173.1 (Nat.le_of_ble_eq_true rfl) (eX12_read (106, .invokevirtual 384, 3) (List.mem_of_getElem? (i := 37) rfl)) (fun r289 s289 t289 lo289 g289 f289 l289 => ?_)
      obtain ⟨q289, z289, c289, jv289, jg289⟩ := f289
      cases q289
      rw [g289] at c289
      have hh289 : zh_ok D cA RTg ro sz H0 t289.heap lo289 := ⟨z289.1, z289.2.1, l289, z289.2.2.2⟩
      have kp289 := kp15.trans (c289.mono (ms' := rdK) (by decide))
      generalize hx289 : ((clG 2, r0S) : gsS) = x289 at jv289 jg289
      have uu289 := jv289.2.2
      unfold vOK at uu289
      have bb289 := byI_bd T x289.2.1
      have g0289 := (c289.1 a 11 0 11 0 fsX12 ha rfl (by decide) (by decide)).trans g015
      have jr289 := jr15.kept ha c289 (by decide)
      refine W.eq (g2 := F0 m 109 ls173 []) rfl ?_
      refine lv_aload_n hx hb (eX12_read (109, .aload_n 0, 1) (List.mem_of_getElem? (i := 38) rfl)) rfl (lv_at hl173 1 rfl) ?_
      refine ff_bipush hx hb (eX12_read (110, .bipush 84, 2) (List.mem_of_getElem? (i := 39) rfl)) (by decide) (by decide) (fun v290 e290 => ?_)
      refine tz_rowV (As := [.int v290]) (st := []) (b := a) (C := RX12) (Ts := gT) hx hb hml hown h2 (fun _ h => h) (hX12_takes l D cA ro sz H0 a v290 84 T (x289.2) ha (by omega) (by decide)) ⟨rfl, rfl⟩ ⟨by decide, by decide⟩ ⟨by decide, by decide⟩ (tb_8 13 rfl rfl) (tb_1 12 rfl rfl) (tb_8 10 rfl rfl) (tb_8 12 rfl rfl) (tb_0 30 rfl rfl) (show yX12_takes.cls ≠ "java/lang/invoke/MethodHandle" ∧ yX12_takes.cls ≠ "java/lang/invoke/VarHandle" ∧ (parseMethodDescriptor yX12_takes.desc).map (fun d => d.parameters.length) = some 1 by decide +kernel) zs_blind (zs_ob hh289 ha (show RTg[11]? = some (0, 11, 0, fsX12) from rfl) (zCX12 hKn.1)) (fun U hU hW => ⟨rfl, by rw [hU]; exact hh289.l0, zKb s U hW.alike hKn, by rw [hU]; exact jv289⟩) hh289.2.2.1 hl173.1 (Nat.le_of_ble_eq_true rfl) (eX12_read (112, .invokevirtual 313, 3) (List.mem_of_getElem? (i := 40) rfl)) (fun r291 s291 t291 lo291 g291 f291 l291 => ?_)
      obtain ⟨v291, q291, e291, z291, c291, jv291⟩ := f291
      cases q291
      rw [g291] at c291
      have hh291 : zh_ok D cA RTg ro sz H0 t291.heap lo291 := ⟨z291.1, z291.2.1, l291, z291.2.2.2⟩
      have kp291 := kp289.trans (c291.mono (ms' := rdK) (by decide))
      have kf291 := tkG_01 T 84 x289.2
      generalize hx291 : tkG T 84 x289.2 = x291 at jv291 e291 kf291
      have uu291 := jv291.2.2
      unfold vOK at uu291
      have bb291 := byI_bd T x291.2.1
      have jg291 := jg289.kept ha c291 (by decide)
      have g0291 := (c291.1 a 11 0 11 0 fsX12 ha rfl (by decide) (by decide)).trans g0289
      have jr291 := jr289.kept ha c291 (by decide)
      refine W.eq (g2 := F0 m 115 ls173 [.int v291]) rfl ?_
      refine lv_istore hx hb (eX12_read (115, .istore 4, 2) (List.mem_of_getElem? (i := 41) rfl)) hl173 (by decide) rfl (fun ls292 hl292 => ?_)
      refine lv_aload_n hx hb (eX12_read (117, .aload_n 0, 1) (List.mem_of_getElem? (i := 42) rfl)) rfl (lv_at hl292 2 rfl) ?_
      refine ff_iconst hx hb (eX12_read (118, .iconst 0, 1) (List.mem_of_getElem? (i := 43) rfl)) (by decide) (by decide) (fun v293 e293 => ?_)
      refine tz_rowV (As := [.int v293]) (st := []) (b := a) (C := RX12) (Ts := gT) hx hb hml hown h2 (fun _ h => h) (hX12_readTime l D cA ro sz H0 a v293 0 T (x291.2) 0 x289.1 hz0 ha (by decide) hT (by omega)) ⟨rfl, rfl⟩ ⟨by decide, by decide⟩ ⟨by decide, by decide⟩ (tb_8 98 rfl rfl) (tb_1 12 rfl rfl) (tb_8 95 rfl rfl) (tb_8 97 rfl rfl) (tb_0 48 rfl rfl) (show yX12_readTime.cls ≠ "java/lang/invoke/MethodHandle" ∧ yX12_readTime.cls ≠ "java/lang/invoke/VarHandle" ∧ (parseMethodDescriptor yX12_readTime.desc).map (fun d => d.parameters.length) = some 1 by decide +kernel) zs_blind (zs_ob hh291 ha (show RTg[11]? = some (0, 11, 0, fsX12) from rfl) (zCX12 hKn.1)) (fun U hU hW => ⟨rfl, by rw [hU]; exact hh291.l0, zKb s U hW.alike hKn, by rw [hU]; exact ⟨jv291, jg291⟩⟩) hh291.2.2.1 hl292.1 (Nat.le_of_ble_eq_true rfl) (eX12_read (119, .invokevirtual 391, 3) (List.mem_of_getElem? (i := 44) rfl)) (fun r294 s294 t294 lo294 g294 f294 l294 => ?_)
      obtain ⟨q294, z294, c294, jv294, jg294⟩ := f294
      cases q294
      rw [g294] at c294
      have hh294 : zh_ok D cA RTg ro sz H0 t294.heap lo294 := ⟨z294.1, z294.2.1, l294, z294.2.2.2⟩
      have kp294 := kp291.trans (c294.mono (ms' := rdK) (by decide))
      generalize hx294 : trG T 0 (x289.1, x291.2) = x294 at jv294 jg294
      have uu294 := jv294.2.2
      unfold vOK at uu294
      have bb294 := byI_bd T x294.2.1
      have g0294 := (c294.1 a 11 0 11 0 fsX12 ha rfl (by decide) (by decide)).trans g0291
      have jr294 := jr291.kept ha c294 (by decide)
      refine W.eq (g2 := F0 m 122 ls292 []) rfl ?_
      refine lv_goto hx hb (eX12_read (122, .goto 125, 3) (List.mem_of_getElem? (i := 45) rfl)) (tgt := 247) rfl ?_
      have hrd : rdG T L fo.toInt gz hz0 = v1G T L (trG T 0 (clG 2, (tkG T 84 r0S).2)) := by unfold rdG; rw [if_neg (show ¬ fo.toInt = 0 by omega), if_neg (show ¬ fo.toInt = 1 by omega), if_pos (show fo.toInt = 2 by omega)]
      have hxe : trG T 0 (clG 2, (tkG T 84 r0S).2) = (x294.1, x294.2) := by (rw [← hx294, ← hx291, ← hx289]) <;> rfl
      have hgq : gQ (trG T 0 (clG 2, (tkG T 84 r0S).2)).1 := fun _ => (tr_gO (x := (clG 2, (tkG T 84 r0S).2)) hT ⟨gB_cl (by decide), vOK_tk (by decide) hvk⟩).1
      rw [hxe] at hrd hgq
      exact jn247a x294.1 hz0 x294.2 v172 ls292 _ _ hh294 kp294 jv294 jg294 jr294 g0294 (by omega) hrd.symm (fun _ => hgq) (lv_sub hl292 [1, 2, 3] rfl)
    by_cases q174_3 : fo.toInt = 3
    · refine lv_tableIn hx hb (eX12_read (44, .tableswitch 102 0 5 #[40, 47, 60, 81, 88, 95], 40) (List.mem_of_getElem? (i := 24) rfl)) gl gh (off := 81) (by rw [q174_3] <;> rfl) (tgt := 125) rfl ?_
      refine lv_aload_n hx hb (eX12_read (125, .aload_n 0, 1) (List.mem_of_getElem? (i := 46) rfl)) rfl (lv_at hl173 1 rfl) ?_
      refine tz_rowV (As := []) (st := []) (b := a) (C := RX12) (Ts := gT) hx hb hml hown h2 (fun _ h => h) (hX12_readBoth l D cA ro sz H0 a   T (r0S) 0 gz hz0 ha (by decide) hT ) ⟨rfl, rfl⟩ ⟨by decide, by decide⟩ ⟨by decide, by decide⟩ (tb_8 102 rfl rfl) (tb_1 12 rfl rfl) (tb_8 99 rfl rfl) (tb_8 101 rfl rfl) (tb_0 49 rfl rfl) (show yX12_readBoth.cls ≠ "java/lang/invoke/MethodHandle" ∧ yX12_readBoth.cls ≠ "java/lang/invoke/VarHandle" ∧ (parseMethodDescriptor yX12_readBoth.desc).map (fun d => d.parameters.length) = some 0 by decide +kernel) zs_blind (zs_ob hh15 ha (show RTg[11]? = some (0, 11, 0, fsX12) from rfl) (zCX12 hKn.1)) (fun U hU hW => ⟨rfl, by rw [hU]; exact hh15.l0, zKb s U hW.alike hKn, by rw [hU]; exact ⟨jv15, jg0⟩⟩) hh15.2.2.1 hl173.1 (Nat.le_of_ble_eq_true rfl) (eX12_read (126, .invokevirtual 401, 3) (List.mem_of_getElem? (i := 47) rfl)) (fun r295 s295 t295 lo295 g295 f295 l295 => ?_)
      obtain ⟨q295, z295, c295, jv295, jg295⟩ := f295
      cases q295
      rw [g295] at c295
      have hh295 : zh_ok D cA RTg ro sz H0 t295.heap lo295 := ⟨z295.1, z295.2.1, l295, z295.2.2.2⟩
      have kp295 := kp15.trans (c295.mono (ms' := rdK) (by decide))
      generalize hx295 : rbG T r0S = x295 at jv295 jg295
      have uu295 := jv295.2.2
      unfold vOK at uu295
      have bb295 := byI_bd T x295.2.1
      have g0295 := (c295.1 a 11 0 11 0 fsX12 ha rfl (by decide) (by decide)).trans g015
      have jr295 := jr15.kept ha c295 (by decide)
      refine W.eq (g2 := F0 m 129 ls173 []) rfl ?_
      refine lv_goto hx hb (eX12_read (129, .goto 118, 3) (List.mem_of_getElem? (i := 48) rfl)) (tgt := 247) rfl ?_
      have hrd : rdG T L fo.toInt gz hz0 = v1G T L (rbG T r0S) := by unfold rdG; rw [if_neg (show ¬ fo.toInt = 0 by omega), if_neg (show ¬ fo.toInt = 1 by omega), if_neg (show ¬ fo.toInt = 2 by omega), if_pos (show fo.toInt = 3 by omega)]
      have hxe : rbG T r0S = (x295.1, x295.2) := by (rw [← hx295]) <;> rfl
      have hgq : gQ (rbG T r0S).1 := rb_gQ hT hvk
      rw [hxe] at hrd hgq
      exact jn247a x295.1 hz0 x295.2 v172 ls173 _ _ hh295 kp295 jv295 jg295 jr295 g0295 (by omega) hrd.symm (fun _ => hgq) (lv_sub hl173 [0, 1, 2] rfl)
    by_cases q174_4 : fo.toInt = 4
    · refine lv_tableIn hx hb (eX12_read (44, .tableswitch 102 0 5 #[40, 47, 60, 81, 88, 95], 40) (List.mem_of_getElem? (i := 24) rfl)) gl gh (off := 88) (by rw [q174_4] <;> rfl) (tgt := 132) rfl ?_
      refine lv_aload_n hx hb (eX12_read (132, .aload_n 0, 1) (List.mem_of_getElem? (i := 49) rfl)) rfl (lv_at hl173 1 rfl) ?_
      refine tz_rowV (As := []) (st := []) (b := a) (C := RX12) (Ts := gT) hx hb hml hown h2 (fun _ h => h) (hX12_readDuration l D cA ro sz H0 a   T (r0S) 0 gz hz0 ha (by decide) hT ) ⟨rfl, rfl⟩ ⟨by decide, by decide⟩ ⟨by decide, by decide⟩ (tb_8 106 rfl rfl) (tb_1 12 rfl rfl) (tb_8 103 rfl rfl) (tb_8 105 rfl rfl) (tb_0 50 rfl rfl) (show yX12_readDuration.cls ≠ "java/lang/invoke/MethodHandle" ∧ yX12_readDuration.cls ≠ "java/lang/invoke/VarHandle" ∧ (parseMethodDescriptor yX12_readDuration.desc).map (fun d => d.parameters.length) = some 0 by decide +kernel) zs_blind (zs_ob hh15 ha (show RTg[11]? = some (0, 11, 0, fsX12) from rfl) (zCX12 hKn.1)) (fun U hU hW => ⟨rfl, by rw [hU]; exact hh15.l0, zKb s U hW.alike hKn, by rw [hU]; exact ⟨jv15, jg0⟩⟩) hh15.2.2.1 hl173.1 (Nat.le_of_ble_eq_true rfl) (eX12_read (133, .invokevirtual 398, 3) (List.mem_of_getElem? (i := 50) rfl)) (fun r296 s296 t296 lo296 g296 f296 l296 => ?_)
      obtain ⟨q296, z296, c296, jv296, jg296⟩ := f296
      cases q296
      rw [g296] at c296
      have hh296 : zh_ok D cA RTg ro sz H0 t296.heap lo296 := ⟨z296.1, z296.2.1, l296, z296.2.2.2⟩
      have kp296 := kp15.trans (c296.mono (ms' := rdK) (by decide))
      generalize hx296 : duG T r0S = x296 at jv296 jg296
      have uu296 := jv296.2.2
      unfold vOK at uu296
      have bb296 := byI_bd T x296.2.1
      have g0296 := (c296.1 a 11 0 11 0 fsX12 ha rfl (by decide) (by decide)).trans g015
      have jr296 := jr15.kept ha c296 (by decide)
      refine W.eq (g2 := F0 m 136 ls173 []) rfl ?_
      refine lv_goto hx hb (eX12_read (136, .goto 111, 3) (List.mem_of_getElem? (i := 51) rfl)) (tgt := 247) rfl ?_
      have hrd : rdG T L fo.toInt gz hz0 = v1G T L (duG T r0S) := by unfold rdG; rw [if_neg (show ¬ fo.toInt = 0 by omega), if_neg (show ¬ fo.toInt = 1 by omega), if_neg (show ¬ fo.toInt = 2 by omega), if_neg (show ¬ fo.toInt = 3 by omega), if_pos (show fo.toInt = 4 by omega)]
      have hxe : duG T r0S = (x296.1, x296.2) := by (rw [← hx296]) <;> rfl
      have hgq : gQ (duG T r0S).1 := du_gQ hvk
      rw [hxe] at hrd hgq
      exact jn247a x296.1 hz0 x296.2 v172 ls173 _ _ hh296 kp296 jv296 jg296 jr296 g0296 (by omega) hrd.symm (fun _ => hgq) (lv_sub hl173 [0, 1, 2] rfl)
    by_cases q174_5 : fo.toInt = 5
    · refine lv_tableIn hx hb (eX12_read (44, .tableswitch 102 0 5 #[40, 47, 60, 81, 88, 95], 40) (List.mem_of_getElem? (i := 24) rfl)) gl gh (off := 95) (by rw [q174_5] <;> rfl) (tgt := 139) rfl ?_
      refine lv_aload_n hx hb (eX12_read (139, .aload_n 0, 1) (List.mem_of_getElem? (i := 52) rfl)) rfl (lv_at hl173 1 rfl) ?_
      refine tz_rowV (As := []) (st := []) (b := a) (C := RX12) (Ts := gT) hx hb hml hown h2 (fun _ h => h) (hX12_readInterval l D cA ro sz H0 a T (r0S) gz hz0 ha hT) ⟨rfl, rfl⟩ ⟨by decide, by decide⟩ ⟨by decide, by decide⟩ (tb_8 113 rfl rfl) (tb_1 12 rfl rfl) (tb_8 110 rfl rfl) (tb_8 112 rfl rfl) (tb_0 51 rfl rfl) (show yX12_readInterval.cls ≠ "java/lang/invoke/MethodHandle" ∧ yX12_readInterval.cls ≠ "java/lang/invoke/VarHandle" ∧ (parseMethodDescriptor yX12_readInterval.desc).map (fun d => d.parameters.length) = some 0 by decide +kernel) zs_blind (zs_ob hh15 ha (show RTg[11]? = some (0, 11, 0, fsX12) from rfl) (zCX12 hKn.1)) (fun U hU hW => ⟨rfl, by rw [hU]; exact hh15.l0, zKb s U hW.alike hKn, by rw [hU]; exact ⟨jv15, jg0⟩⟩) hh15.2.2.1 hl173.1 (Nat.le_of_ble_eq_true rfl) (eX12_read (140, .invokevirtual 436, 3) (List.mem_of_getElem? (i := 53) rfl)) (fun r297 s297 t297 lo297 g297 f297 l297 => ?_)
      obtain ⟨q297, z297, c297, jv297, jg297⟩ := f297
      cases q297
      rw [g297] at c297
      have hh297 : zh_ok D cA RTg ro sz H0 t297.heap lo297 := ⟨z297.1, z297.2.1, l297, z297.2.2.2⟩
      have kp297 := kp15.trans (c297.mono (ms' := rdK) (by decide))
      have gq297 := in_gQ (T := T) (r := r0S) hT jv15.2.2
      generalize hx297 : inG T r0S = x297 at jv297 jg297 gq297
      have uu297 := jv297.2.2
      unfold vOK at uu297
      have g0297 := (c297.1 a 11 0 11 0 fsX12 ha rfl (by decide) (by decide)).trans g015
      have jr297 := jr15.kept ha c297 (by decide)
      refine W.eq (g2 := F0 m 143 ls173 []) rfl ?_
      refine lv_goto hx hb (eX12_read (143, .goto 104, 3) (List.mem_of_getElem? (i := 54) rfl)) (tgt := 247) rfl ?_
      have hrd : rdG T L fo.toInt gz hz0 = v2G T L (inG T r0S) := by unfold rdG; rw [if_neg (show ¬ fo.toInt = 0 by omega), if_neg (show ¬ fo.toInt = 1 by omega), if_neg (show ¬ fo.toInt = 2 by omega), if_neg (show ¬ fo.toInt = 3 by omega), if_neg (show ¬ fo.toInt = 4 by omega), if_pos (show fo.toInt = 5 by omega)]
      rw [hx297] at hrd
      exact jn247b x297.2.1 x297.1 x297.2.2 v172 ls173 _ _ hh297 kp297 jv297 jg297 jr297 g0297 (by omega) hrd.symm (fun _ => gq297) (lv_sub hl173 [0, 1, 2] rfl)
    exfalso
    omega
