/-! p19: the reader of forms: what it holds -/
def jFq (D : va_G) (H : Heap) (fr tx lp dt tm du : Nat) : Prop := zh_f D H fr 3 0 = .ref tx ∧ zh_f D H fr 3 1 = .ref lp ∧ zh_f D H fr 3 2 = .ref dt ∧ zh_f D H fr 3 3 = .ref tm ∧ zh_f D H fr 3 4 = .ref du
theorem jFq.kept {D : va_G} {ro : Nat → Option Nat} {H H' : Heap} {ms : List (Nat × Nat)} {fr tx lp dt tm du : Nat} (hr : ro fr = some 3) (h : zc_kept D RTg ro ms H H') (hm : ∀ y ∈ [(3, 0), (3, 1), (3, 2), (3, 3), (3, 4)], y ∉ ms) (j : jFq D H fr tx lp dt tm du) : jFq D H' fr tx lp dt tm du := by
  obtain ⟨j1, j2, j3, j4, j5⟩ := j
  exact ⟨(h.1 fr 3 0 3 0 fsX4 hr rfl (by decide) (hm _ (by decide))).trans j1, (h.1 fr 3 1 3 0 fsX4 hr rfl (by decide) (hm _ (by decide))).trans j2, (h.1 fr 3 2 3 0 fsX4 hr rfl (by decide) (hm _ (by decide))).trans j3, (h.1 fr 3 3 3 0 fsX4 hr rfl (by decide) (hm _ (by decide))).trans j4, (h.1 fr 3 4 3 0 fsX4 hr rfl (by decide) (hm _ (by decide))).trans j5⟩
def jRw (D : va_G) (cA : Nat → ClassId) (ro : Nat → Option Nat) (H : Heap) (fr tx lp dt tm du : Nat) (T L : List Int) (x : mS) : Prop := jFq D H fr tx lp dt tm du ∧ jU D cA ro H tx T x.2.2 ∧ jF D H dt 1 10 x.1 ∧ jF D H tm 7 14 x.2.1 ∧ jLp D cA ro H lp L
def rdMq : List (Nat × Nat) := [(0, 2), (0, 3), (0, 4), (1, 0), (1, 1), (1, 2), (1, 3), (1, 4), (1, 5), (1, 6), (1, 7), (1, 8), (1, 9), (7, 0), (7, 1), (7, 2), (7, 3), (7, 4), (7, 5), (7, 6), (7, 7), (7, 8), (7, 9), (7, 10), (7, 11), (7, 12), (7, 13), (2, 0), (2, 1), (2, 2), (2, 3), (2, 4), (17, 0)]
def rd_V (D : va_G) (cA : Nat → ClassId) (ro : Nat → Option Nat) (sz : Nat) (H0 : Heap) (fr tx lp dt tm du : Nat) (T L : List Int) (x : mS) : Array Value → State → Outcome → State → Prop := fun _ st oc t => oc = .returned none ∧ zh_ok D cA RTg ro sz H0 t.heap [] ∧ zc_kept D RTg ro rdMq st.heap t.heap ∧ jRw D cA ro t.heap fr tx lp dt tm du T L x
/-- a date that is told, then its time -/
def sgF (L : List Int) (fd ft : fN) (s : uS) : uS := if (dqF fd s).1 = NONEI then (dqF fd s).2 else tqF L (dqF fd s).1 ft (dqF fd s).2
def stpF (L : List Int) (day : Int) (ft : fN) (s : uS) : uS := if day = NONEI then s else tqF L day ft s
/-- bounds of what was scanned -/
def DB (f : fN) : Prop := (f 4 = 0 ∨ f 4 = 1) ∧ (f 1 = 0 ∨ f 1 = 1) ∧ (0 ≤ f 5 ∧ f 5 ≤ 999999)
def TB (f : fN) : Prop := ((0 ≤ f 1 ∧ f 1 ≤ 99) ∧ (0 ≤ f 3 ∧ f 3 ≤ 99) ∧ (0 ≤ f 11 ∧ f 11 ≤ 99) ∧ (0 ≤ f 13 ∧ f 13 ≤ 99)) ∧ (f 9 = 0 ∨ f 9 = 1)
def DY (d : Int) : Prop := d ≠ NONEI → -365961662 ≤ d ∧ d ≤ 364522971
/-- the forms, as the code goes -/
def mqF (T L : List Int) (x : mS) : mS := ((dtF T 1 (x.1, x.2.2)).1, (tmF9 T (if (dtF T 1 (x.1, x.2.2)).1 1 = 1 then 1 else 2) (x.2.1, ndF T 84 (dtF T 1 (x.1, x.2.2)).2)).1, sgF L (dtF T 1 (x.1, x.2.2)).1 (tmF9 T (if (dtF T 1 (x.1, x.2.2)).1 1 = 1 then 1 else 2) (x.2.1, ndF T 84 (dtF T 1 (x.1, x.2.2)).2)).1 (tmF9 T (if (dtF T 1 (x.1, x.2.2)).1 1 = 1 then 1 else 2) (x.2.1, ndF T 84 (dtF T 1 (x.1, x.2.2)).2)).2)
def spq (T : List Int) (s : uS) : uS := if (tkF T 84 s).1 = 1 then (tkF T 84 s).2 else if (tkF T 116 (tkF T 84 s).2).1 = 1 then (tkF T 116 (tkF T 84 s).2).2 else ndF T 32 (tkF T 116 (tkF T 84 s).2).2
def sq2F (T L : List Int) (fd ft : fN) (s : uS) : mS := (fd, (tfF T (ft, s)).1, sgF L fd (tfF T (ft, s)).1 (tfF T (ft, s)).2)
def sqqF (T L : List Int) (x : mS) : mS := sq2F T L (dfF T (x.1, x.2.2)).1 x.2.1 (spq T (dfF T (x.1, x.2.2)).2)
def iqF (T L : List Int) (x : mS) : mS :=
  if lk T x.2.2 = 80 then mqF T L (x.1, x.2.1, ndF T 47 (duF T x.2.2))
  else if lk T (ndF T 47 (mqF T L (x.1, x.2.1, x.2.2)).2.2) = 80 then ((mqF T L (x.1, x.2.1, x.2.2)).1, (mqF T L (x.1, x.2.1, x.2.2)).2.1, duF T (ndF T 47 (mqF T L (x.1, x.2.1, x.2.2)).2.2))
  else mqF T L ((mqF T L (x.1, x.2.1, x.2.2)).1, (mqF T L (x.1, x.2.1, x.2.2)).2.1, ndF T 47 (mqF T L (x.1, x.2.1, x.2.2)).2.2)
def cqF (T : List Int) (x : mS) : mS := (x.1, x.2.1, ndF T 47 (if 0 ≤ dgF T (ndF T 82 x.2.2) then (nbF T 1 9 0 0 (ndF T 82 x.2.2)).2 else ndF T 82 x.2.2))
def dqqF (T : List Int) (x : mS) : mS := ((dtF T 0 (x.1, x.2.2)).1, x.2.1, (dqF (dtF T 0 (x.1, x.2.2)).1 (dtF T 0 (x.1, x.2.2)).2).2)
def tqqF (T L : List Int) (x : mS) : mS := (x.1, (tmF9 T 0 (x.2.1, (tkF T 84 x.2.2).2)).1, tqF L NONEI (tmF9 T 0 (x.2.1, (tkF T 84 x.2.2).2)).1 (tmF9 T 0 (x.2.1, (tkF T 84 x.2.2).2)).2)
set_option maxRecDepth 100000 in
set_option maxHeartbeats 4000000 in
theorem hX4_start (l : Launch) (D : va_G) (cA : Nat → ClassId) (ro : Nat → Option Nat) (sz : Nat) (H0 : Heap) (fr : Nat)  (tx lp dt tm du : Nat) (T L : List Int) (x : mS) (hfr : ro fr = some 3) (htx : ro tx = some 0) (hlp : ro lp = some 4) (hdt : ro dt = some 1) (htm : ro tm = some 7) (hdu : ro du = some 2) : Met l yX4_start (gW yX4_start cX4_start 1 none) { frames := 1, cells := 0, slots := 0, locals := 24 } (zs_PC D cA ro sz H0 (fun H => jFq D H fr tx lp dt tm du ∧ jTx D cA ro H tx T ∧ jF D H dt 1 10 x.1 ∧ jF D H tm 7 14 x.2.1 ∧ jLp D cA ro H lp L) [.ref fr]) (rd_V D cA ro sz H0 fr tx lp dt tm du T L ((x.1, x.2.1, (0, 0, -1)))) 0 0 (zy_fr sz) := by
  refine zy_ofW (cc := cX4_start) (maxL := 1) (ret := none) (by decide +kernel) rfl ?_
  intro p e s m args below meth c s1 B hml hv
  obtain ⟨rfl, hh, ⟨hKn, hBQ, hLQ⟩, hJ⟩ := hv
  have hx := B.exec
  have hb := B.bytes
  have hr := B.returns
  have hlk := B.notSynchronized
  have hts0 := atoms_spec (ws := gW yX4_start cX4_start 1 none) B.pre
  have h2 : ∀ w ∈ gT, w.before ([.ref fr] : List Value).toArray s = true := fun w hw => hts0 w (List.mem_cons_of_mem _ hw)
  have hown : s.vm.findClass RX4 = some m.cls := findClass_of_methodNamed B.named
  have hl := lv_entry [.ref fr] (n := 1) (Nat.le_of_ble_eq_true rfl)
  rw [lg_entry_eq]
  generalize (lg_sl [.ref fr] ++ List.replicate (1 - (lg_sl [.ref fr]).length) Slot.unset).toArray = ls at hl ⊢
  have hD := zD_all h2 hKn.1
  have hcl3 := fun (idx k : Nat) (t : zt_T) (h : (idx, 3, k) ∈ gfX4) (hk : fsX4[k]? = some t) => zf_clause (ro := ro) (ms := rdMq) h2 hown hKn.1 gfX4_ok (by decide +kernel) idx 3 k 3 0 fsX4 t h rfl hk
  have hcl0 := fun (idx k : Nat) (t : zt_T) (h : (idx, 0, k) ∈ gfX4) (hk : fsX0[k]? = some t) => zf_clause (ro := ro) (ms := rdMq) h2 hown hKn.1 gfX4_ok (by decide +kernel) idx 0 k 0 0 fsX0 t h rfl hk
  have hcl1 := fun (idx k : Nat) (t : zt_T) (h : (idx, 1, k) ∈ gfX4) (hk : fsX1[k]? = some t) => zf_clause (ro := ro) (ms := rdMq) h2 hown hKn.1 gfX4_ok (by decide +kernel) idx 1 k 1 0 fsX1 t h rfl hk
  have hcl7 := fun (idx k : Nat) (t : zt_T) (h : (idx, 7, k) ∈ gfX4) (hk : fsX8[k]? = some t) => zf_clause (ro := ro) (ms := rdMq) h2 hown hKn.1 gfX4_ok (by decide +kernel) idx 7 k 7 0 fsX8 t h rfl hk
  have hcl2 := fun (idx k : Nat) (t : zt_T) (h : (idx, 2, k) ∈ gfX4) (hk : fsX3[k]? = some t) => zf_clause (ro := ro) (ms := rdMq) h2 hown hKn.1 gfX4_ok (by decide +kernel) idx 2 k 2 0 fsX3 t h rfl hk
  have kp0 : zc_kept D RTg ro rdMq s.heap s.heap := zc_kept.refl
  obtain ⟨jfr0, ju0, jdt0, jtm0, jlp0⟩ := hJ
  refine lv_aload_n hx hb (eX4_start (0, .aload_n 0, 1) (List.mem_of_getElem? (i := 0) rfl)) rfl (lv_at hl 0 rfl) ?_
  refine tz_get (r := 3) (k := 0) (t := (4, 0, 0)) hx hb hh hfr rfl rfl (hcl3 36 0 (4, 0, 0) (by decide) rfl).1 jfr0.1 (eX4_start (1, .getfield 36, 3) (List.mem_of_getElem? (i := 1) rfl)) ?_
  refine tz_rowV (As := []) (st := []) (b := tx) (C := RX0) (Ts := gT) hx hb hml hown h2 (fun _ h => h) (hX0_start l D cA ro sz H0 tx T htx) ⟨rfl, rfl⟩ ⟨by decide, by decide⟩ ⟨by decide, by decide⟩ (tb_4 1 rfl rfl) (tb_1 5 rfl rfl) (tb_4 216 rfl rfl) (tb_3 239 rfl rfl) (tb_4 0 rfl rfl) (show yX0_start.cls ≠ "java/lang/invoke/MethodHandle" ∧ yX0_start.cls ≠ "java/lang/invoke/VarHandle" ∧ (parseMethodDescriptor yX0_start.desc).map (fun d => d.parameters.length) = some 0 by decide +kernel) zs_blind (zs_ob hh htx (show RTg[0]? = some (0, 0, 0, fsX0) from rfl) (zCX0 hKn.1)) (fun U hU hW => ⟨rfl, by rw [hU]; exact hh.l0, zKb s U hW.alike hKn, by rw [hU]; exact ju0⟩) hh.2.2.1 hl.1 (Nat.le_of_ble_eq_true rfl) (eX4_start (4, .invokevirtual 44, 3) (List.mem_of_getElem? (i := 2) rfl)) (fun r1 s1 t1 lo1 g1 f1 l1 => ?_)
  obtain ⟨q1, z1, c1, ju1, fx1⟩ := f1
  cases q1
  rw [g1] at c1 fx1
  have hh1 : zh_ok D cA RTg ro sz H0 t1.heap lo1 := ⟨z1.1, z1.2.1, l1, z1.2.2.2⟩
  have kp1 := kp0.trans (c1.mono (ms' := rdMq) (by decide))
  have jfr1 := jfr0.kept hfr c1 (by decide)
  have jdt1 := jdt0.kept hdt rfl (by decide) c1 (by decide)
  have jtm1 := jtm0.kept htm rfl (by decide) c1 (by decide)
  have jlp1 := jlp0.kept hlp c1 (by decide) (by decide) (by decide)
  refine W.eq (g2 := F0 m 7 ls []) rfl ?_
  refine lv_aload_n hx hb (eX4_start (7, .aload_n 0, 1) (List.mem_of_getElem? (i := 3) rfl)) rfl (lv_at hl 0 rfl) ?_
  obtain ⟨sa2, fa2, ra2⟩ := tz_ref (k := 5) (rr := 17) hh1 hfr (show RTg[3]? = some (0, 3, 0, fsX4) from rfl) rfl
  refine tz_get (r := 3) (k := 5) (t := (38, 0, 0)) hx hb hh1 hfr rfl rfl (hcl3 32 5 (38, 0, 0) (by decide) rfl).1 fa2 (eX4_start (8, .getfield 32, 3) (List.mem_of_getElem? (i := 4) rfl)) ?_
  refine ff_ldc2 (n := (-9223372036854775808)) hx hb hown h2 (clX4_ok 49 (-9223372036854775808) (List.mem_of_getElem? (i := 0) rfl)) (eX4_start (11, .ldc2_w 49, 3) (List.mem_of_getElem? (i := 5) rfl)) (fun v3 e3 => ?_)
  refine tz_rowS (As := [.ref sa2, .long v3]) (st := []) (Ts := gT) hx hb hml hown h2 (fun _ h => h) (ty_V (J := fun _ => True) (vs := [.ref sa2, .long v3]) (ms := [(17, 0)]) (mJ7_fill_d0a16 l D cA ro sz H0) (ty_pre ⟨Or.inr ⟨_, rfl, ra2⟩, ty_l _, trivial⟩ rfl rfl) rfl rfl) ⟨rfl, rfl⟩ ⟨by decide, by decide⟩ ⟨by decide, by decide⟩ (tb_2 59 rfl rfl) (tb_1 11 rfl rfl) (tb_4 218 rfl rfl) (tb_2 58 rfl rfl) (show yJ7_fill_d0a16.cls ≠ "java/lang/invoke/MethodHandle" ∧ yJ7_fill_d0a16.cls ≠ "java/lang/invoke/VarHandle" ∧ (parseMethodDescriptor yJ7_fill_d0a16.desc).map (fun d => d.parameters.length) = some 2 by decide +kernel) zs_blind (fun U hU hW => ⟨rfl, by rw [hU]; exact hh1.l0, zKb s U hW.alike hKn, by rw [hU]; exact trivial⟩) hh1.2.2.1 hl.1 (Nat.le_of_ble_eq_true rfl) (eX4_start (14, .invokestatic 51, 3) (List.mem_of_getElem? (i := 6) rfl)) (fun r4 s4 t4 lo4 g4 f4 l4 => ?_)
  obtain ⟨q4, z4, c4⟩ := f4
  cases q4
  rw [g4] at c4
  have hh4 : zh_ok D cA RTg ro sz H0 t4.heap lo4 := ⟨z4.1, z4.2.1, l4, z4.2.2.2⟩
  have kp4 := kp1.trans (c4.mono (ms' := rdMq) (by decide))
  have jfr4 := jfr1.kept hfr c4 (by decide)
  have ju4 := ju1.kept htx c4 (by decide)
  have jdt4 := jdt1.kept hdt rfl (by decide) c4 (by decide)
  have jtm4 := jtm1.kept htm rfl (by decide) c4 (by decide)
  have jlp4 := jlp1.kept hlp c4 (by decide) (by decide) (by decide)
  refine W.eq (g2 := F0 m 17 ls []) rfl ?_
  have hfin : (x.1, x.2.1, (0, 0, -1)) = (x.1, x.2.1, (0, 0, -1)) := by first | (simp only [up_eq]; done) | (simp only [up_eq] <;> rfl) | rfl
  exact W.vret hx hb hr (fun t ht hW => ⟨rfl, by rw [ht]; exact hh4.l0, by rw [ht]; exact kp4, by rw [ht]; first | (rw [hfin]; exact ⟨jfr4, ju4, jdt4, jtm4, jlp4⟩) | exact ⟨jfr4, ju4, jdt4, jtm4, jlp4⟩⟩) hh4.2.2.1 (eX4_start (17, .return_, 1) (List.mem_of_getElem? (i := 7) rfl))
set_option maxRecDepth 100000 in
set_option maxHeartbeats 4000000 in
theorem hX4_stageTime (l : Launch) (D : va_G) (cA : Nat → ClassId) (ro : Nat → Option Nat) (sz : Nat) (H0 : Heap) (fr : Nat) (pa : Int32) (fo : Int32) (dv : Int64) (tx lp dt tm du : Nat) (T L : List Int) (x : mS) (day : Int) (hfr : ro fr = some 3) (htx : ro tx = some 0) (hlp : ro lp = some 4) (hdt : ro dt = some 1) (htm : ro tm = some 7) (hdu : ro du = some 2) (hdv : dv.toInt = day) (hdy : day ≠ NONEI → -365961662 ≤ day ∧ day ≤ 364522971) (htb : TB x.2.1) : Met l yX4_stageTime (gW yX4_stageTime cX4_stageTime 6 none) { frames := 3, cells := 0, slots := 0, locals := 76 } (zs_PC D cA ro sz H0 (fun H => jRw D cA ro H fr tx lp dt tm du T L x) [.ref fr, .int pa, .int fo, .long dv]) (rd_V D cA ro sz H0 fr tx lp dt tm du T L ((x.1, x.2.1, tqF L day x.2.1 x.2.2))) 0 0 (zy_fr sz) := by
  refine zy_ofW (cc := cX4_stageTime) (maxL := 6) (ret := none) (by decide +kernel) rfl ?_
  intro p e s m args below meth c s1 B hml hv
  obtain ⟨rfl, hh, ⟨hKn, hBQ, hLQ⟩, hJ⟩ := hv
  have hx := B.exec
  have hb := B.bytes
  have hr := B.returns
  have hlk := B.notSynchronized
  have hts0 := atoms_spec (ws := gW yX4_stageTime cX4_stageTime 6 none) B.pre
  have h2 : ∀ w ∈ gT, w.before ([.ref fr, .int pa, .int fo, .long dv] : List Value).toArray s = true := fun w hw => hts0 w (List.mem_cons_of_mem _ hw)
  have hown : s.vm.findClass RX4 = some m.cls := findClass_of_methodNamed B.named
  have hl := lv_entry [.ref fr, .int pa, .int fo, .long dv] (n := 6) (Nat.le_of_ble_eq_true rfl)
  rw [lg_entry_eq]
  generalize (lg_sl [.ref fr, .int pa, .int fo, .long dv] ++ List.replicate (6 - (lg_sl [.ref fr, .int pa, .int fo, .long dv]).length) Slot.unset).toArray = ls at hl ⊢
  have b_pa := zn_i32 pa
  have b_fo := zn_i32 fo
  have b_dv := zn_i64 dv
  have hD := zD_all h2 hKn.1
  have hcl3 := fun (idx k : Nat) (t : zt_T) (h : (idx, 3, k) ∈ gfX4) (hk : fsX4[k]? = some t) => zf_clause (ro := ro) (ms := rdMq) h2 hown hKn.1 gfX4_ok (by decide +kernel) idx 3 k 3 0 fsX4 t h rfl hk
  have hcl0 := fun (idx k : Nat) (t : zt_T) (h : (idx, 0, k) ∈ gfX4) (hk : fsX0[k]? = some t) => zf_clause (ro := ro) (ms := rdMq) h2 hown hKn.1 gfX4_ok (by decide +kernel) idx 0 k 0 0 fsX0 t h rfl hk
  have hcl1 := fun (idx k : Nat) (t : zt_T) (h : (idx, 1, k) ∈ gfX4) (hk : fsX1[k]? = some t) => zf_clause (ro := ro) (ms := rdMq) h2 hown hKn.1 gfX4_ok (by decide +kernel) idx 1 k 1 0 fsX1 t h rfl hk
  have hcl7 := fun (idx k : Nat) (t : zt_T) (h : (idx, 7, k) ∈ gfX4) (hk : fsX8[k]? = some t) => zf_clause (ro := ro) (ms := rdMq) h2 hown hKn.1 gfX4_ok (by decide +kernel) idx 7 k 7 0 fsX8 t h rfl hk
  have hcl2 := fun (idx k : Nat) (t : zt_T) (h : (idx, 2, k) ∈ gfX4) (hk : fsX3[k]? = some t) => zf_clause (ro := ro) (ms := rdMq) h2 hown hKn.1 gfX4_ok (by decide +kernel) idx 2 k 2 0 fsX3 t h rfl hk
  have kp0 : zc_kept D RTg ro rdMq s.heap s.heap := zc_kept.refl
  obtain ⟨jfr0, ju0, jdt0, jtm0, jlp0⟩ := hJ
  have hu := ju0.2.2
  unfold uOK at hu
  refine lv_aload_n hx hb (eX4_stageTime (0, .aload_n 0, 1) (List.mem_of_getElem? (i := 0) rfl)) rfl (lv_at hl 0 rfl) ?_
  refine tz_get (r := 3) (k := 3) (t := (18, 0, 0)) hx hb hh hfr rfl rfl (hcl3 21 3 (18, 0, 0) (by decide) rfl).1 jfr0.2.2.2.1 (eX4_stageTime (1, .getfield 21, 3) (List.mem_of_getElem? (i := 1) rfl)) ?_
  refine lv_aload_n hx hb (eX4_stageTime (4, .aload_n 0, 1) (List.mem_of_getElem? (i := 2) rfl)) rfl (lv_at hl 0 rfl) ?_
  refine tz_get (r := 3) (k := 0) (t := (4, 0, 0)) hx hb hh hfr rfl rfl (hcl3 36 0 (4, 0, 0) (by decide) rfl).1 jfr0.1 (eX4_stageTime (5, .getfield 36, 3) (List.mem_of_getElem? (i := 3) rfl)) ?_
  refine lv_lload_n hx hb (eX4_stageTime (8, .lload_n 3, 1) (List.mem_of_getElem? (i := 4) rfl)) rfl (lv_at hl 3 rfl) ?_
  refine lv_aload_n hx hb (eX4_stageTime (9, .aload_n 0, 1) (List.mem_of_getElem? (i := 5) rfl)) rfl (lv_at hl 0 rfl) ?_
  refine tz_get (r := 3) (k := 1) (t := (12, 0, 0)) hx hb hh hfr rfl rfl (hcl3 40 1 (12, 0, 0) (by decide) rfl).1 jfr0.2.1 (eX4_stageTime (10, .getfield 40, 3) (List.mem_of_getElem? (i := 6) rfl)) ?_
  refine tz_rowV (As := [.ref tx, .long dv, .ref lp]) (st := []) (b := tm) (C := RX8) (Ts := gT) hx hb hml hown h2 (fun _ h => h) (hX8_settle l D cA ro sz H0 tm tx dv lp day L T (x.2.2) (x.2.1) htm htx hdv hlp hdy htb.1 htb.2) ⟨rfl, rfl⟩ ⟨by decide, by decide⟩ ⟨by decide, by decide⟩ (tb_5 59 rfl rfl) (tb_1 9 rfl rfl) (tb_5 56 rfl rfl) (tb_5 57 rfl rfl) (tb_5 58 rfl rfl) (show yX8_settle.cls ≠ "java/lang/invoke/MethodHandle" ∧ yX8_settle.cls ≠ "java/lang/invoke/VarHandle" ∧ (parseMethodDescriptor yX8_settle.desc).map (fun d => d.parameters.length) = some 3 by decide +kernel) zs_blind (zs_ob hh htm (show RTg[7]? = some (0, 7, 0, fsX8) from rfl) (zCX8 hKn.1)) (fun U hU hW => ⟨rfl, by rw [hU]; exact hh.l0, zKb s U hW.alike hKn, by rw [hU]; exact ⟨ju0, jtm0, jlp0⟩⟩) hh.2.2.1 hl.1 (Nat.le_of_ble_eq_true rfl) (eX4_stageTime (13, .invokevirtual 160, 3) (List.mem_of_getElem? (i := 7) rfl)) (fun r1 s1 t1 lo1 g1 f1 l1 => ?_)
  obtain ⟨q1, z1, c1, ju1, fx1⟩ := f1
  cases q1
  rw [g1] at c1 fx1
  have hh1 : zh_ok D cA RTg ro sz H0 t1.heap lo1 := ⟨z1.1, z1.2.1, l1, z1.2.2.2⟩
  have kp1 := kp0.trans (c1.mono (ms' := rdMq) (by decide))
  generalize hx1 : tqF L day (x.2.1) x.2.2 = x1 at ju1
  have uu1 := ju1.2.2
  unfold uOK at uu1
  have jfr1 := jfr0.kept hfr c1 (by decide)
  have jdt1 := jdt0.kept hdt rfl (by decide) c1 (by decide)
  have jtm1 := jtm0.kept htm rfl (by decide) c1 (by decide)
  have jlp1 := jlp0.kept hlp c1 (by decide) (by decide) (by decide)
  refine W.eq (g2 := F0 m 16 ls []) rfl ?_
  refine lv_aload_n hx hb (eX4_stageTime (16, .aload_n 0, 1) (List.mem_of_getElem? (i := 8) rfl)) rfl (lv_at hl 0 rfl) ?_
  refine tz_get (r := 3) (k := 3) (t := (18, 0, 0)) hx hb hh1 hfr rfl rfl (hcl3 21 3 (18, 0, 0) (by decide) rfl).1 jfr1.2.2.2.1 (eX4_stageTime (17, .getfield 21, 3) (List.mem_of_getElem? (i := 9) rfl)) ?_
  refine tz_rowV (As := []) (st := []) (b := tm) (C := RX8) (Ts := gT) hx hb hml hown h2 (fun _ h => h) (ty_I (J := fun _ => True) (vs := [.ref tm]) (ms := []) (mX8_minuteOfDay l D cA ro sz H0) (ty_pre ⟨Or.inr ⟨_, rfl, htm⟩, trivial⟩ rfl rfl) rfl rfl) ⟨rfl, rfl⟩ ⟨by decide, by decide⟩ ⟨by decide, by decide⟩ (tb_5 72 rfl rfl) (tb_1 9 rfl rfl) (tb_5 69 rfl rfl) (tb_5 70 rfl rfl) (tb_5 71 rfl rfl) (show yX8_minuteOfDay.cls ≠ "java/lang/invoke/MethodHandle" ∧ yX8_minuteOfDay.cls ≠ "java/lang/invoke/VarHandle" ∧ (parseMethodDescriptor yX8_minuteOfDay.desc).map (fun d => d.parameters.length) = some 0 by decide +kernel) zs_blind (zs_ob hh1 htm (show RTg[7]? = some (0, 7, 0, fsX8) from rfl) (zCX8 hKn.1)) (fun U hU hW => ⟨rfl, by rw [hU]; exact hh1.l0, zKb s U hW.alike hKn, by rw [hU]; exact trivial⟩) hh1.2.2.1 hl.1 (Nat.le_of_ble_eq_true rfl) (eX4_stageTime (20, .invokevirtual 133, 3) (List.mem_of_getElem? (i := 10) rfl)) (fun r2 s2 t2 lo2 g2 f2 l2 => ?_)
  obtain ⟨v2, q2, z2, c2⟩ := f2
  cases q2
  rw [g2] at c2
  have hh2 : zh_ok D cA RTg ro sz H0 t2.heap lo2 := ⟨z2.1, z2.2.1, l2, z2.2.2.2⟩
  have kp2 := kp1.trans (c2.mono (ms' := rdMq) (by decide))
  have jfr2 := jfr1.kept hfr c2 (by decide)
  have ju2 := ju1.kept htx c2 (by decide)
  have jdt2 := jdt1.kept hdt rfl (by decide) c2 (by decide)
  have jtm2 := jtm1.kept htm rfl (by decide) c2 (by decide)
  have jlp2 := jlp1.kept hlp c2 (by decide) (by decide) (by decide)
  refine W.eq (g2 := F0 m 23 ls [.int v2]) rfl ?_
  refine lv_istore hx hb (eX4_stageTime (23, .istore 5, 2) (List.mem_of_getElem? (i := 11) rfl)) hl (by decide) rfl (fun ls3 hl3 => ?_)
  refine lv_aload_n hx hb (eX4_stageTime (25, .aload_n 0, 1) (List.mem_of_getElem? (i := 12) rfl)) rfl (lv_at hl3 1 rfl) ?_
  refine lv_iload_n hx hb (eX4_stageTime (26, .iload_n 1, 1) (List.mem_of_getElem? (i := 13) rfl)) rfl (lv_at hl3 2 rfl) ?_
  refine ff_iconst hx hb (eX4_stageTime (27, .iconst 0, 1) (List.mem_of_getElem? (i := 14) rfl)) (by decide) (by decide) (fun v4 e4 => ?_)
  refine lv_iload_n hx hb (eX4_stageTime (28, .iload_n 2, 1) (List.mem_of_getElem? (i := 15) rfl)) rfl (lv_at hl3 3 rfl) ?_
  refine ff_i2l hx hb (eX4_stageTime (29, .i2l, 1) (List.mem_of_getElem? (i := 16) rfl)) (fun v5 e5 => ?_)
  refine tz_rowV (As := [.int pa, .int v4, .long v5]) (st := []) (b := fr) (C := RX4) (Ts := gT) hx hb hml hown h2 (fun _ h => h) (ty_V (J := fun _ => True) (vs := [.ref fr, .int pa, .int v4, .long v5]) (ms := [(17, 0)]) (mX4_put l D cA ro sz H0) (ty_pre ⟨Or.inr ⟨_, rfl, hfr⟩, ty_i _, ty_i _, ty_l _, trivial⟩ rfl rfl) rfl rfl) ⟨rfl, rfl⟩ ⟨by decide, by decide⟩ ⟨by decide, by decide⟩ (tb_5 82 rfl rfl) (tb_1 7 rfl rfl) (tb_5 79 rfl rfl) (tb_5 80 rfl rfl) (tb_5 81 rfl rfl) (show yX4_put.cls ≠ "java/lang/invoke/MethodHandle" ∧ yX4_put.cls ≠ "java/lang/invoke/VarHandle" ∧ (parseMethodDescriptor yX4_put.desc).map (fun d => d.parameters.length) = some 3 by decide +kernel) zs_blind (zs_ob hh2 hfr (show RTg[3]? = some (0, 3, 0, fsX4) from rfl) (zCX4 hKn.1)) (fun U hU hW => ⟨rfl, by rw [hU]; exact hh2.l0, zKb s U hW.alike hKn, by rw [hU]; exact trivial⟩) hh2.2.2.1 hl3.1 (Nat.le_of_ble_eq_true rfl) (eX4_stageTime (30, .invokevirtual 82, 3) (List.mem_of_getElem? (i := 17) rfl)) (fun r6 s6 t6 lo6 g6 f6 l6 => ?_)
  obtain ⟨q6, z6, c6⟩ := f6
  cases q6
  rw [g6] at c6
  have hh6 : zh_ok D cA RTg ro sz H0 t6.heap lo6 := ⟨z6.1, z6.2.1, l6, z6.2.2.2⟩
  have kp6 := kp2.trans (c6.mono (ms' := rdMq) (by decide))
  have jfr6 := jfr2.kept hfr c6 (by decide)
  have ju6 := ju2.kept htx c6 (by decide)
  have jdt6 := jdt2.kept hdt rfl (by decide) c6 (by decide)
  have jtm6 := jtm2.kept htm rfl (by decide) c6 (by decide)
  have jlp6 := jlp2.kept hlp c6 (by decide) (by decide) (by decide)
  refine W.eq (g2 := F0 m 33 ls3 []) rfl ?_
  refine lv_aload_n hx hb (eX4_stageTime (33, .aload_n 0, 1) (List.mem_of_getElem? (i := 18) rfl)) rfl (lv_at hl3 1 rfl) ?_
  refine lv_iload_n hx hb (eX4_stageTime (34, .iload_n 1, 1) (List.mem_of_getElem? (i := 19) rfl)) rfl (lv_at hl3 2 rfl) ?_
  refine ff_iconst hx hb (eX4_stageTime (35, .iconst 3, 1) (List.mem_of_getElem? (i := 20) rfl)) (by decide) (by decide) (fun v7 e7 => ?_)
  refine lv_iload hx hb (eX4_stageTime (36, .iload 5, 2) (List.mem_of_getElem? (i := 21) rfl)) (lv_at hl3 0 rfl) ?_
  refine ff_i2l hx hb (eX4_stageTime (38, .i2l, 1) (List.mem_of_getElem? (i := 22) rfl)) (fun v8 e8 => ?_)
  refine ff_ldc2 (n := 1440) hx hb hown h2 (clX4_ok 137 1440 (List.mem_of_getElem? (i := 2) rfl)) (eX4_stageTime (39, .ldc2_w 137, 3) (List.mem_of_getElem? (i := 23) rfl)) (fun v9 e9 => ?_)
  refine ff_lcmp hx hb (eX4_stageTime (42, .lcmp, 1) (List.mem_of_getElem? (i := 24) rfl)) (fun v10 e10 => ?_)
  refine ff_if_ge hx hb (eX4_stageTime (43, .ifCond .ge 9, 3) (List.mem_of_getElem? (i := 25) rfl)) (tgt := 52) rfl (fun c11 => ?_) (fun c11 => ?_)
  · skip
    refine ff_lconst hx hb (eX4_stageTime (52, .lconst 0, 1) (List.mem_of_getElem? (i := 29) rfl)) rfl (fun v12 e12 => ?_)
    refine tz_rowV (As := [.int pa, .int v7, .long v12]) (st := []) (b := fr) (C := RX4) (Ts := gT) hx hb hml hown h2 (fun _ h => h) (ty_V (J := fun _ => True) (vs := [.ref fr, .int pa, .int v7, .long v12]) (ms := [(17, 0)]) (mX4_put l D cA ro sz H0) (ty_pre ⟨Or.inr ⟨_, rfl, hfr⟩, ty_i _, ty_i _, ty_l _, trivial⟩ rfl rfl) rfl rfl) ⟨rfl, rfl⟩ ⟨by decide, by decide⟩ ⟨by decide, by decide⟩ (tb_5 82 rfl rfl) (tb_1 7 rfl rfl) (tb_5 79 rfl rfl) (tb_5 80 rfl rfl) (tb_5 81 rfl rfl) (show yX4_put.cls ≠ "java/lang/invoke/MethodHandle" ∧ yX4_put.cls ≠ "java/lang/invoke/VarHandle" ∧ (parseMethodDescriptor yX4_put.desc).map (fun d => d.parameters.length) = some 3 by decide +kernel) zs_blind (zs_ob hh6 hfr (show RTg[3]? = some (0, 3, 0, fsX4) from rfl) (zCX4 hKn.1)) (fun U hU hW => ⟨rfl, by rw [hU]; exact hh6.l0, zKb s U hW.alike hKn, by rw [hU]; exact trivial⟩) hh6.2.2.1 hl3.1 (Nat.le_of_ble_eq_true rfl) (eX4_stageTime (53, .invokevirtual 82, 3) (List.mem_of_getElem? (i := 30) rfl)) (fun r13 s13 t13 lo13 g13 f13 l13 => ?_)
    obtain ⟨q13, z13, c13⟩ := f13
    cases q13
    rw [g13] at c13
    have hh13 : zh_ok D cA RTg ro sz H0 t13.heap lo13 := ⟨z13.1, z13.2.1, l13, z13.2.2.2⟩
    have kp13 := kp6.trans (c13.mono (ms' := rdMq) (by decide))
    have jfr13 := jfr6.kept hfr c13 (by decide)
    have ju13 := ju6.kept htx c13 (by decide)
    have jdt13 := jdt6.kept hdt rfl (by decide) c13 (by decide)
    have jtm13 := jtm6.kept htm rfl (by decide) c13 (by decide)
    have jlp13 := jlp6.kept hlp c13 (by decide) (by decide) (by decide)
    refine W.eq (g2 := F0 m 56 ls3 []) rfl ?_
    refine lv_aload_n hx hb (eX4_stageTime (56, .aload_n 0, 1) (List.mem_of_getElem? (i := 31) rfl)) rfl (lv_at hl3 1 rfl) ?_
    refine lv_iload_n hx hb (eX4_stageTime (57, .iload_n 1, 1) (List.mem_of_getElem? (i := 32) rfl)) rfl (lv_at hl3 2 rfl) ?_
    refine ff_iconst hx hb (eX4_stageTime (58, .iconst 4, 1) (List.mem_of_getElem? (i := 33) rfl)) (by decide) (by decide) (fun v14 e14 => ?_)
    refine lv_aload_n hx hb (eX4_stageTime (59, .aload_n 0, 1) (List.mem_of_getElem? (i := 34) rfl)) rfl (lv_at hl3 1 rfl) ?_
    refine tz_get (r := 3) (k := 3) (t := (18, 0, 0)) hx hb hh13 hfr rfl rfl (hcl3 21 3 (18, 0, 0) (by decide) rfl).1 jfr13.2.2.2.1 (eX4_stageTime (60, .getfield 21, 3) (List.mem_of_getElem? (i := 35) rfl)) ?_
    refine tz_rowV (As := []) (st := [.int v14, .int pa, .ref fr]) (b := tm) (C := RX8) (Ts := gT) hx hb hml hown h2 (fun _ h => h) (ty_I (J := fun _ => True) (vs := [.ref tm]) (ms := []) (mX8_secondOfMinute l D cA ro sz H0) (ty_pre ⟨Or.inr ⟨_, rfl, htm⟩, trivial⟩ rfl rfl) rfl rfl) ⟨rfl, rfl⟩ ⟨by decide, by decide⟩ ⟨by decide, by decide⟩ (tb_5 87 rfl rfl) (tb_1 9 rfl rfl) (tb_5 84 rfl rfl) (tb_5 85 rfl rfl) (tb_5 86 rfl rfl) (show yX8_secondOfMinute.cls ≠ "java/lang/invoke/MethodHandle" ∧ yX8_secondOfMinute.cls ≠ "java/lang/invoke/VarHandle" ∧ (parseMethodDescriptor yX8_secondOfMinute.desc).map (fun d => d.parameters.length) = some 0 by decide +kernel) zs_blind (zs_ob hh13 htm (show RTg[7]? = some (0, 7, 0, fsX8) from rfl) (zCX8 hKn.1)) (fun U hU hW => ⟨rfl, by rw [hU]; exact hh13.l0, zKb s U hW.alike hKn, by rw [hU]; exact trivial⟩) hh13.2.2.1 hl3.1 (Nat.le_of_ble_eq_true rfl) (eX4_stageTime (63, .invokevirtual 151, 3) (List.mem_of_getElem? (i := 36) rfl)) (fun r15 s15 t15 lo15 g15 f15 l15 => ?_)
    obtain ⟨v15, q15, z15, c15⟩ := f15
    cases q15
    rw [g15] at c15
    have hh15 : zh_ok D cA RTg ro sz H0 t15.heap lo15 := ⟨z15.1, z15.2.1, l15, z15.2.2.2⟩
    have kp15 := kp13.trans (c15.mono (ms' := rdMq) (by decide))
    have jfr15 := jfr13.kept hfr c15 (by decide)
    have ju15 := ju13.kept htx c15 (by decide)
    have jdt15 := jdt13.kept hdt rfl (by decide) c15 (by decide)
    have jtm15 := jtm13.kept htm rfl (by decide) c15 (by decide)
    have jlp15 := jlp13.kept hlp c15 (by decide) (by decide) (by decide)
    refine W.eq (g2 := F0 m 66 ls3 [.int v15, .int v14, .int pa, .ref fr]) rfl ?_
    refine ff_i2l hx hb (eX4_stageTime (66, .i2l, 1) (List.mem_of_getElem? (i := 37) rfl)) (fun v16 e16 => ?_)
    refine tz_rowV (As := [.int pa, .int v14, .long v16]) (st := []) (b := fr) (C := RX4) (Ts := gT) hx hb hml hown h2 (fun _ h => h) (ty_V (J := fun _ => True) (vs := [.ref fr, .int pa, .int v14, .long v16]) (ms := [(17, 0)]) (mX4_put l D cA ro sz H0) (ty_pre ⟨Or.inr ⟨_, rfl, hfr⟩, ty_i _, ty_i _, ty_l _, trivial⟩ rfl rfl) rfl rfl) ⟨rfl, rfl⟩ ⟨by decide, by decide⟩ ⟨by decide, by decide⟩ (tb_5 82 rfl rfl) (tb_1 7 rfl rfl) (tb_5 79 rfl rfl) (tb_5 80 rfl rfl) (tb_5 81 rfl rfl) (show yX4_put.cls ≠ "java/lang/invoke/MethodHandle" ∧ yX4_put.cls ≠ "java/lang/invoke/VarHandle" ∧ (parseMethodDescriptor yX4_put.desc).map (fun d => d.parameters.length) = some 3 by decide +kernel) zs_blind (zs_ob hh15 hfr (show RTg[3]? = some (0, 3, 0, fsX4) from rfl) (zCX4 hKn.1)) (fun U hU hW => ⟨rfl, by rw [hU]; exact hh15.l0, zKb s U hW.alike hKn, by rw [hU]; exact trivial⟩) hh15.2.2.1 hl3.1 (Nat.le_of_ble_eq_true rfl) (eX4_stageTime (67, .invokevirtual 82, 3) (List.mem_of_getElem? (i := 38) rfl)) (fun r17 s17 t17 lo17 g17 f17 l17 => ?_)
    obtain ⟨q17, z17, c17⟩ := f17
    cases q17
    rw [g17] at c17
    have hh17 : zh_ok D cA RTg ro sz H0 t17.heap lo17 := ⟨z17.1, z17.2.1, l17, z17.2.2.2⟩
    have kp17 := kp15.trans (c17.mono (ms' := rdMq) (by decide))
    have jfr17 := jfr15.kept hfr c17 (by decide)
    have ju17 := ju15.kept htx c17 (by decide)
    have jdt17 := jdt15.kept hdt rfl (by decide) c17 (by decide)
    have jtm17 := jtm15.kept htm rfl (by decide) c17 (by decide)
    have jlp17 := jlp15.kept hlp c17 (by decide) (by decide) (by decide)
    refine W.eq (g2 := F0 m 70 ls3 []) rfl ?_
    refine lv_aload_n hx hb (eX4_stageTime (70, .aload_n 0, 1) (List.mem_of_getElem? (i := 39) rfl)) rfl (lv_at hl3 1 rfl) ?_
    refine lv_iload_n hx hb (eX4_stageTime (71, .iload_n 1, 1) (List.mem_of_getElem? (i := 40) rfl)) rfl (lv_at hl3 2 rfl) ?_
    refine ff_iconst hx hb (eX4_stageTime (72, .iconst 5, 1) (List.mem_of_getElem? (i := 41) rfl)) (by decide) (by decide) (fun v18 e18 => ?_)
    refine lv_aload_n hx hb (eX4_stageTime (73, .aload_n 0, 1) (List.mem_of_getElem? (i := 42) rfl)) rfl (lv_at hl3 1 rfl) ?_
    refine tz_get (r := 3) (k := 3) (t := (18, 0, 0)) hx hb hh17 hfr rfl rfl (hcl3 21 3 (18, 0, 0) (by decide) rfl).1 jfr17.2.2.2.1 (eX4_stageTime (74, .getfield 21, 3) (List.mem_of_getElem? (i := 43) rfl)) ?_
    refine tz_rowV (As := []) (st := [.int v18, .int pa, .ref fr]) (b := tm) (C := RX8) (Ts := gT) hx hb hml hown h2 (fun _ h => h) (ty_L (J := fun _ => True) (vs := [.ref tm]) (ms := []) (mX8_partNanos l D cA ro sz H0) (ty_pre ⟨Or.inr ⟨_, rfl, htm⟩, trivial⟩ rfl rfl) rfl rfl) ⟨rfl, rfl⟩ ⟨by decide, by decide⟩ ⟨by decide, by decide⟩ (tb_5 76 rfl rfl) (tb_1 9 rfl rfl) (tb_5 88 rfl rfl) (tb_5 74 rfl rfl) (tb_5 75 rfl rfl) (show yX8_partNanos.cls ≠ "java/lang/invoke/MethodHandle" ∧ yX8_partNanos.cls ≠ "java/lang/invoke/VarHandle" ∧ (parseMethodDescriptor yX8_partNanos.desc).map (fun d => d.parameters.length) = some 0 by decide +kernel) zs_blind (zs_ob hh17 htm (show RTg[7]? = some (0, 7, 0, fsX8) from rfl) (zCX8 hKn.1)) (fun U hU hW => ⟨rfl, by rw [hU]; exact hh17.l0, zKb s U hW.alike hKn, by rw [hU]; exact trivial⟩) hh17.2.2.1 hl3.1 (Nat.le_of_ble_eq_true rfl) (eX4_stageTime (77, .invokevirtual 163, 3) (List.mem_of_getElem? (i := 44) rfl)) (fun r19 s19 t19 lo19 g19 f19 l19 => ?_)
    obtain ⟨v19, q19, z19, c19⟩ := f19
    cases q19
    rw [g19] at c19
    have hh19 : zh_ok D cA RTg ro sz H0 t19.heap lo19 := ⟨z19.1, z19.2.1, l19, z19.2.2.2⟩
    have kp19 := kp17.trans (c19.mono (ms' := rdMq) (by decide))
    have jfr19 := jfr17.kept hfr c19 (by decide)
    have ju19 := ju17.kept htx c19 (by decide)
    have jdt19 := jdt17.kept hdt rfl (by decide) c19 (by decide)
    have jtm19 := jtm17.kept htm rfl (by decide) c19 (by decide)
    have jlp19 := jlp17.kept hlp c19 (by decide) (by decide) (by decide)
    refine W.eq (g2 := F0 m 80 ls3 [.long v19, .int v18, .int pa, .ref fr]) rfl ?_
    refine ff_ldc2 (n := 1000000000) hx hb hown h2 (clX4_ok 167 1000000000 (List.mem_of_getElem? (i := 3) rfl)) (eX4_stageTime (80, .ldc2_w 167, 3) (List.mem_of_getElem? (i := 45) rfl)) (fun v20 e20 => ?_)
    refine lv_lrem hx hb (eX4_stageTime (83, .lrem, 1) (List.mem_of_getElem? (i := 46) rfl)) (fun q9 => by rw [q9] at e20; exact absurd e20 (by decide)) ?_
    generalize v19 - v19 / v20 * v20 = v21
    refine tz_rowV (As := [.int pa, .int v18, .long v21]) (st := []) (b := fr) (C := RX4) (Ts := gT) hx hb hml hown h2 (fun _ h => h) (ty_V (J := fun _ => True) (vs := [.ref fr, .int pa, .int v18, .long v21]) (ms := [(17, 0)]) (mX4_put l D cA ro sz H0) (ty_pre ⟨Or.inr ⟨_, rfl, hfr⟩, ty_i _, ty_i _, ty_l _, trivial⟩ rfl rfl) rfl rfl) ⟨rfl, rfl⟩ ⟨by decide, by decide⟩ ⟨by decide, by decide⟩ (tb_5 82 rfl rfl) (tb_1 7 rfl rfl) (tb_5 79 rfl rfl) (tb_5 80 rfl rfl) (tb_5 81 rfl rfl) (show yX4_put.cls ≠ "java/lang/invoke/MethodHandle" ∧ yX4_put.cls ≠ "java/lang/invoke/VarHandle" ∧ (parseMethodDescriptor yX4_put.desc).map (fun d => d.parameters.length) = some 3 by decide +kernel) zs_blind (zs_ob hh19 hfr (show RTg[3]? = some (0, 3, 0, fsX4) from rfl) (zCX4 hKn.1)) (fun U hU hW => ⟨rfl, by rw [hU]; exact hh19.l0, zKb s U hW.alike hKn, by rw [hU]; exact trivial⟩) hh19.2.2.1 hl3.1 (Nat.le_of_ble_eq_true rfl) (eX4_stageTime (84, .invokevirtual 82, 3) (List.mem_of_getElem? (i := 47) rfl)) (fun r22 s22 t22 lo22 g22 f22 l22 => ?_)
    obtain ⟨q22, z22, c22⟩ := f22
    cases q22
    rw [g22] at c22
    have hh22 : zh_ok D cA RTg ro sz H0 t22.heap lo22 := ⟨z22.1, z22.2.1, l22, z22.2.2.2⟩
    have kp22 := kp19.trans (c22.mono (ms' := rdMq) (by decide))
    have jfr22 := jfr19.kept hfr c22 (by decide)
    have ju22 := ju19.kept htx c22 (by decide)
    have jdt22 := jdt19.kept hdt rfl (by decide) c22 (by decide)
    have jtm22 := jtm19.kept htm rfl (by decide) c22 (by decide)
    have jlp22 := jlp19.kept hlp c22 (by decide) (by decide) (by decide)
    refine W.eq (g2 := F0 m 87 ls3 []) rfl ?_
    refine lv_aload_n hx hb (eX4_stageTime (87, .aload_n 0, 1) (List.mem_of_getElem? (i := 48) rfl)) rfl (lv_at hl3 1 rfl) ?_
    refine tz_get (r := 3) (k := 3) (t := (18, 0, 0)) hx hb hh22 hfr rfl rfl (hcl3 21 3 (18, 0, 0) (by decide) rfl).1 jfr22.2.2.2.1 (eX4_stageTime (88, .getfield 21, 3) (List.mem_of_getElem? (i := 49) rfl)) ?_
    obtain ⟨v23, fa23, e23⟩ := jtm22 8 (by decide)
    refine tz_get (r := 7) (k := 8) (t := (0, (-2147483648), 2147483647)) hx hb hh22 htm rfl rfl (hcl7 142 8 (0, (-2147483648), 2147483647) (by decide) rfl).1 fa23 (eX4_stageTime (91, .getfield 142, 3) (List.mem_of_getElem? (i := 50) rfl)) ?_
    refine ff_if_lt hx hb (eX4_stageTime (94, .ifCond .lt 33, 3) (List.mem_of_getElem? (i := 51) rfl)) (tgt := 127) rfl (fun c24 => ?_) (fun c24 => ?_)
    · skip
      have hfin : (x.1, x.2.1, tqF L day x.2.1 x.2.2) = (x.1, x.2.1, x1) := by first | (simp only [hx1, up_eq]; done) | (simp only [hx1, up_eq] <;> rfl) | rfl
      exact W.vret hx hb hr (fun t ht hW => ⟨rfl, by rw [ht]; exact hh22.l0, by rw [ht]; exact kp22, by rw [ht]; first | (rw [hfin]; exact ⟨jfr22, ju22, jdt22, jtm22, jlp22⟩) | exact ⟨jfr22, ju22, jdt22, jtm22, jlp22⟩⟩) hh22.2.2.1 (eX4_stageTime (127, .return_, 1) (List.mem_of_getElem? (i := 68) rfl))
    · skip
      refine lv_aload_n hx hb (eX4_stageTime (97, .aload_n 0, 1) (List.mem_of_getElem? (i := 52) rfl)) rfl (lv_at hl3 1 rfl) ?_
      refine lv_iload_n hx hb (eX4_stageTime (98, .iload_n 1, 1) (List.mem_of_getElem? (i := 53) rfl)) rfl (lv_at hl3 2 rfl) ?_
      refine ff_bipush hx hb (eX4_stageTime (99, .bipush 6, 2) (List.mem_of_getElem? (i := 54) rfl)) (by decide) (by decide) (fun v25 e25 => ?_)
      refine lv_aload_n hx hb (eX4_stageTime (101, .aload_n 0, 1) (List.mem_of_getElem? (i := 55) rfl)) rfl (lv_at hl3 1 rfl) ?_
      refine tz_get (r := 3) (k := 3) (t := (18, 0, 0)) hx hb hh22 hfr rfl rfl (hcl3 21 3 (18, 0, 0) (by decide) rfl).1 jfr22.2.2.2.1 (eX4_stageTime (102, .getfield 21, 3) (List.mem_of_getElem? (i := 56) rfl)) ?_
      refine tz_rowV (As := []) (st := [.int v25, .int pa, .ref fr]) (b := tm) (C := RX8) (Ts := gT) hx hb hml hown h2 (fun _ h => h) (ty_I (J := fun _ => True) (vs := [.ref tm]) (ms := []) (mX8_offsetTold l D cA ro sz H0) (ty_pre ⟨Or.inr ⟨_, rfl, htm⟩, trivial⟩ rfl rfl) rfl rfl) ⟨rfl, rfl⟩ ⟨by decide, by decide⟩ ⟨by decide, by decide⟩ (tb_5 65 rfl rfl) (tb_1 9 rfl rfl) (tb_5 90 rfl rfl) (tb_5 63 rfl rfl) (tb_5 64 rfl rfl) (show yX8_offsetTold.cls ≠ "java/lang/invoke/MethodHandle" ∧ yX8_offsetTold.cls ≠ "java/lang/invoke/VarHandle" ∧ (parseMethodDescriptor yX8_offsetTold.desc).map (fun d => d.parameters.length) = some 0 by decide +kernel) zs_blind (zs_ob hh22 htm (show RTg[7]? = some (0, 7, 0, fsX8) from rfl) (zCX8 hKn.1)) (fun U hU hW => ⟨rfl, by rw [hU]; exact hh22.l0, zKb s U hW.alike hKn, by rw [hU]; exact trivial⟩) hh22.2.2.1 hl3.1 (Nat.le_of_ble_eq_true rfl) (eX4_stageTime (105, .invokevirtual 139, 3) (List.mem_of_getElem? (i := 57) rfl)) (fun r26 s26 t26 lo26 g26 f26 l26 => ?_)
      obtain ⟨v26, q26, z26, c26⟩ := f26
      cases q26
      rw [g26] at c26
      have hh26 : zh_ok D cA RTg ro sz H0 t26.heap lo26 := ⟨z26.1, z26.2.1, l26, z26.2.2.2⟩
      have kp26 := kp22.trans (c26.mono (ms' := rdMq) (by decide))
      have jfr26 := jfr22.kept hfr c26 (by decide)
      have ju26 := ju22.kept htx c26 (by decide)
      have jdt26 := jdt22.kept hdt rfl (by decide) c26 (by decide)
      have jtm26 := jtm22.kept htm rfl (by decide) c26 (by decide)
      have jlp26 := jlp22.kept hlp c26 (by decide) (by decide) (by decide)
      refine W.eq (g2 := F0 m 108 ls3 [.int v26, .int v25, .int pa, .ref fr]) rfl ?_
      refine ff_i2l hx hb (eX4_stageTime (108, .i2l, 1) (List.mem_of_getElem? (i := 58) rfl)) (fun v27 e27 => ?_)
      refine tz_rowV (As := [.int pa, .int v25, .long v27]) (st := []) (b := fr) (C := RX4) (Ts := gT) hx hb hml hown h2 (fun _ h => h) (ty_V (J := fun _ => True) (vs := [.ref fr, .int pa, .int v25, .long v27]) (ms := [(17, 0)]) (mX4_put l D cA ro sz H0) (ty_pre ⟨Or.inr ⟨_, rfl, hfr⟩, ty_i _, ty_i _, ty_l _, trivial⟩ rfl rfl) rfl rfl) ⟨rfl, rfl⟩ ⟨by decide, by decide⟩ ⟨by decide, by decide⟩ (tb_5 82 rfl rfl) (tb_1 7 rfl rfl) (tb_5 79 rfl rfl) (tb_5 80 rfl rfl) (tb_5 81 rfl rfl) (show yX4_put.cls ≠ "java/lang/invoke/MethodHandle" ∧ yX4_put.cls ≠ "java/lang/invoke/VarHandle" ∧ (parseMethodDescriptor yX4_put.desc).map (fun d => d.parameters.length) = some 3 by decide +kernel) zs_blind (zs_ob hh26 hfr (show RTg[3]? = some (0, 3, 0, fsX4) from rfl) (zCX4 hKn.1)) (fun U hU hW => ⟨rfl, by rw [hU]; exact hh26.l0, zKb s U hW.alike hKn, by rw [hU]; exact trivial⟩) hh26.2.2.1 hl3.1 (Nat.le_of_ble_eq_true rfl) (eX4_stageTime (109, .invokevirtual 82, 3) (List.mem_of_getElem? (i := 59) rfl)) (fun r28 s28 t28 lo28 g28 f28 l28 => ?_)
      obtain ⟨q28, z28, c28⟩ := f28
      cases q28
      rw [g28] at c28
      have hh28 : zh_ok D cA RTg ro sz H0 t28.heap lo28 := ⟨z28.1, z28.2.1, l28, z28.2.2.2⟩
      have kp28 := kp26.trans (c28.mono (ms' := rdMq) (by decide))
      have jfr28 := jfr26.kept hfr c28 (by decide)
      have ju28 := ju26.kept htx c28 (by decide)
      have jdt28 := jdt26.kept hdt rfl (by decide) c28 (by decide)
      have jtm28 := jtm26.kept htm rfl (by decide) c28 (by decide)
      have jlp28 := jlp26.kept hlp c28 (by decide) (by decide) (by decide)
      refine W.eq (g2 := F0 m 112 ls3 []) rfl ?_
      refine lv_aload_n hx hb (eX4_stageTime (112, .aload_n 0, 1) (List.mem_of_getElem? (i := 60) rfl)) rfl (lv_at hl3 1 rfl) ?_
      refine lv_iload_n hx hb (eX4_stageTime (113, .iload_n 1, 1) (List.mem_of_getElem? (i := 61) rfl)) rfl (lv_at hl3 2 rfl) ?_
      refine ff_bipush hx hb (eX4_stageTime (114, .bipush 7, 2) (List.mem_of_getElem? (i := 62) rfl)) (by decide) (by decide) (fun v29 e29 => ?_)
      refine lv_aload_n hx hb (eX4_stageTime (116, .aload_n 0, 1) (List.mem_of_getElem? (i := 63) rfl)) rfl (lv_at hl3 1 rfl) ?_
      refine tz_get (r := 3) (k := 3) (t := (18, 0, 0)) hx hb hh28 hfr rfl rfl (hcl3 21 3 (18, 0, 0) (by decide) rfl).1 jfr28.2.2.2.1 (eX4_stageTime (117, .getfield 21, 3) (List.mem_of_getElem? (i := 64) rfl)) ?_
      refine tz_rowV (As := []) (st := [.int v29, .int pa, .ref fr]) (b := tm) (C := RX8) (Ts := gT) hx hb hml hown h2 (fun _ h => h) (ty_I (J := fun _ => True) (vs := [.ref tm]) (ms := []) (mX8_mannerTold l D cA ro sz H0) (ty_pre ⟨Or.inr ⟨_, rfl, htm⟩, trivial⟩ rfl rfl) rfl rfl) ⟨rfl, rfl⟩ ⟨by decide, by decide⟩ ⟨by decide, by decide⟩ (tb_5 94 rfl rfl) (tb_1 9 rfl rfl) (tb_5 91 rfl rfl) (tb_5 92 rfl rfl) (tb_5 93 rfl rfl) (show yX8_mannerTold.cls ≠ "java/lang/invoke/MethodHandle" ∧ yX8_mannerTold.cls ≠ "java/lang/invoke/VarHandle" ∧ (parseMethodDescriptor yX8_mannerTold.desc).map (fun d => d.parameters.length) = some 0 by decide +kernel) zs_blind (zs_ob hh28 htm (show RTg[7]? = some (0, 7, 0, fsX8) from rfl) (zCX8 hKn.1)) (fun U hU hW => ⟨rfl, by rw [hU]; exact hh28.l0, zKb s U hW.alike hKn, by rw [hU]; exact trivial⟩) hh28.2.2.1 hl3.1 (Nat.le_of_ble_eq_true rfl) (eX4_stageTime (120, .invokevirtual 169, 3) (List.mem_of_getElem? (i := 65) rfl)) (fun r30 s30 t30 lo30 g30 f30 l30 => ?_)
      obtain ⟨v30, q30, z30, c30⟩ := f30
      cases q30
      rw [g30] at c30
      have hh30 : zh_ok D cA RTg ro sz H0 t30.heap lo30 := ⟨z30.1, z30.2.1, l30, z30.2.2.2⟩
      have kp30 := kp28.trans (c30.mono (ms' := rdMq) (by decide))
      have jfr30 := jfr28.kept hfr c30 (by decide)
      have ju30 := ju28.kept htx c30 (by decide)
      have jdt30 := jdt28.kept hdt rfl (by decide) c30 (by decide)
      have jtm30 := jtm28.kept htm rfl (by decide) c30 (by decide)
      have jlp30 := jlp28.kept hlp c30 (by decide) (by decide) (by decide)
      refine W.eq (g2 := F0 m 123 ls3 [.int v30, .int v29, .int pa, .ref fr]) rfl ?_
      refine ff_i2l hx hb (eX4_stageTime (123, .i2l, 1) (List.mem_of_getElem? (i := 66) rfl)) (fun v31 e31 => ?_)
      refine tz_rowV (As := [.int pa, .int v29, .long v31]) (st := []) (b := fr) (C := RX4) (Ts := gT) hx hb hml hown h2 (fun _ h => h) (ty_V (J := fun _ => True) (vs := [.ref fr, .int pa, .int v29, .long v31]) (ms := [(17, 0)]) (mX4_put l D cA ro sz H0) (ty_pre ⟨Or.inr ⟨_, rfl, hfr⟩, ty_i _, ty_i _, ty_l _, trivial⟩ rfl rfl) rfl rfl) ⟨rfl, rfl⟩ ⟨by decide, by decide⟩ ⟨by decide, by decide⟩ (tb_5 82 rfl rfl) (tb_1 7 rfl rfl) (tb_5 79 rfl rfl) (tb_5 80 rfl rfl) (tb_5 81 rfl rfl) (show yX4_put.cls ≠ "java/lang/invoke/MethodHandle" ∧ yX4_put.cls ≠ "java/lang/invoke/VarHandle" ∧ (parseMethodDescriptor yX4_put.desc).map (fun d => d.parameters.length) = some 3 by decide +kernel) zs_blind (zs_ob hh30 hfr (show RTg[3]? = some (0, 3, 0, fsX4) from rfl) (zCX4 hKn.1)) (fun U hU hW => ⟨rfl, by rw [hU]; exact hh30.l0, zKb s U hW.alike hKn, by rw [hU]; exact trivial⟩) hh30.2.2.1 hl3.1 (Nat.le_of_ble_eq_true rfl) (eX4_stageTime (124, .invokevirtual 82, 3) (List.mem_of_getElem? (i := 67) rfl)) (fun r32 s32 t32 lo32 g32 f32 l32 => ?_)
      obtain ⟨q32, z32, c32⟩ := f32
      cases q32
      rw [g32] at c32
      have hh32 : zh_ok D cA RTg ro sz H0 t32.heap lo32 := ⟨z32.1, z32.2.1, l32, z32.2.2.2⟩
      have kp32 := kp30.trans (c32.mono (ms' := rdMq) (by decide))
      have jfr32 := jfr30.kept hfr c32 (by decide)
      have ju32 := ju30.kept htx c32 (by decide)
      have jdt32 := jdt30.kept hdt rfl (by decide) c32 (by decide)
      have jtm32 := jtm30.kept htm rfl (by decide) c32 (by decide)
      have jlp32 := jlp30.kept hlp c32 (by decide) (by decide) (by decide)
      refine W.eq (g2 := F0 m 127 ls3 []) rfl ?_
      have hfin : (x.1, x.2.1, tqF L day x.2.1 x.2.2) = (x.1, x.2.1, x1) := by first | (simp only [hx1, up_eq]; done) | (simp only [hx1, up_eq] <;> rfl) | rfl
      exact W.vret hx hb hr (fun t ht hW => ⟨rfl, by rw [ht]; exact hh32.l0, by rw [ht]; exact kp32, by rw [ht]; first | (rw [hfin]; exact ⟨jfr32, ju32, jdt32, jtm32, jlp32⟩) | exact ⟨jfr32, ju32, jdt32, jtm32, jlp32⟩⟩) hh32.2.2.1 (eX4_stageTime (127, .return_, 1) (List.mem_of_getElem? (i := 68) rfl))
  · skip
    refine lv_iload hx hb (eX4_stageTime (46, .iload 5, 2) (List.mem_of_getElem? (i := 26) rfl)) (lv_at hl3 0 rfl) ?_
    refine ff_i2l hx hb (eX4_stageTime (48, .i2l, 1) (List.mem_of_getElem? (i := 27) rfl)) (fun v33 e33 => ?_)
    refine lv_goto hx hb (eX4_stageTime (49, .goto 4, 3) (List.mem_of_getElem? (i := 28) rfl)) (tgt := 53) rfl ?_
    refine tz_rowV (As := [.int pa, .int v7, .long v33]) (st := []) (b := fr) (C := RX4) (Ts := gT) hx hb hml hown h2 (fun _ h => h) (ty_V (J := fun _ => True) (vs := [.ref fr, .int pa, .int v7, .long v33]) (ms := [(17, 0)]) (mX4_put l D cA ro sz H0) (ty_pre ⟨Or.inr ⟨_, rfl, hfr⟩, ty_i _, ty_i _, ty_l _, trivial⟩ rfl rfl) rfl rfl) ⟨rfl, rfl⟩ ⟨by decide, by decide⟩ ⟨by decide, by decide⟩ (tb_5 82 rfl rfl) (tb_1 7 rfl rfl) (tb_5 79 rfl rfl) (tb_5 80 rfl rfl) (tb_5 81 rfl rfl) (show yX4_put.cls ≠ "java/lang/invoke/MethodHandle" ∧ yX4_put.cls ≠ "java/lang/invoke/VarHandle" ∧ (parseMethodDescriptor yX4_put.desc).map (fun d => d.parameters.length) = some 3 by decide +kernel) zs_blind (zs_ob hh6 hfr (show RTg[3]? = some (0, 3, 0, fsX4) from rfl) (zCX4 hKn.1)) (fun U hU hW => ⟨rfl, by rw [hU]; exact hh6.l0, zKb s U hW.alike hKn, by rw [hU]; exact trivial⟩) hh6.2.2.1 hl3.1 (Nat.le_of_ble_eq_true rfl) (eX4_stageTime (53, .invokevirtual 82, 3) (List.mem_of_getElem? (i := 30) rfl)) (fun r34 s34 t34 lo34 g34 f34 l34 => ?_)
    obtain ⟨q34, z34, c34⟩ := f34
    cases q34
    rw [g34] at c34
    have hh34 : zh_ok D cA RTg ro sz H0 t34.heap lo34 := ⟨z34.1, z34.2.1, l34, z34.2.2.2⟩
    have kp34 := kp6.trans (c34.mono (ms' := rdMq) (by decide))
    have jfr34 := jfr6.kept hfr c34 (by decide)
    have ju34 := ju6.kept htx c34 (by decide)
    have jdt34 := jdt6.kept hdt rfl (by decide) c34 (by decide)
    have jtm34 := jtm6.kept htm rfl (by decide) c34 (by decide)
    have jlp34 := jlp6.kept hlp c34 (by decide) (by decide) (by decide)
    refine W.eq (g2 := F0 m 56 ls3 []) rfl ?_
    refine lv_aload_n hx hb (eX4_stageTime (56, .aload_n 0, 1) (List.mem_of_getElem? (i := 31) rfl)) rfl (lv_at hl3 1 rfl) ?_
    refine lv_iload_n hx hb (eX4_stageTime (57, .iload_n 1, 1) (List.mem_of_getElem? (i := 32) rfl)) rfl (lv_at hl3 2 rfl) ?_
    refine ff_iconst hx hb (eX4_stageTime (58, .iconst 4, 1) (List.mem_of_getElem? (i := 33) rfl)) (by decide) (by decide) (fun v35 e35 => ?_)
    refine lv_aload_n hx hb (eX4_stageTime (59, .aload_n 0, 1) (List.mem_of_getElem? (i := 34) rfl)) rfl (lv_at hl3 1 rfl) ?_
    refine tz_get (r := 3) (k := 3) (t := (18, 0, 0)) hx hb hh34 hfr rfl rfl (hcl3 21 3 (18, 0, 0) (by decide) rfl).1 jfr34.2.2.2.1 (eX4_stageTime (60, .getfield 21, 3) (List.mem_of_getElem? (i := 35) rfl)) ?_
    refine tz_rowV (As := []) (st := [.int v35, .int pa, .ref fr]) (b := tm) (C := RX8) (Ts := gT) hx hb hml hown h2 (fun _ h => h) (ty_I (J := fun _ => True) (vs := [.ref tm]) (ms := []) (mX8_secondOfMinute l D cA ro sz H0) (ty_pre ⟨Or.inr ⟨_, rfl, htm⟩, trivial⟩ rfl rfl) rfl rfl) ⟨rfl, rfl⟩ ⟨by decide, by decide⟩ ⟨by decide, by decide⟩ (tb_5 87 rfl rfl) (tb_1 9 rfl rfl) (tb_5 84 rfl rfl) (tb_5 85 rfl rfl) (tb_5 86 rfl rfl) (show yX8_secondOfMinute.cls ≠ "java/lang/invoke/MethodHandle" ∧ yX8_secondOfMinute.cls ≠ "java/lang/invoke/VarHandle" ∧ (parseMethodDescriptor yX8_secondOfMinute.desc).map (fun d => d.parameters.length) = some 0 by decide +kernel) zs_blind (zs_ob hh34 htm (show RTg[7]? = some (0, 7, 0, fsX8) from rfl) (zCX8 hKn.1)) (fun U hU hW => ⟨rfl, by rw [hU]; exact hh34.l0, zKb s U hW.alike hKn, by rw [hU]; exact trivial⟩) hh34.2.2.1 hl3.1 (Nat.le_of_ble_eq_true rfl) (eX4_stageTime (63, .invokevirtual 151, 3) (List.mem_of_getElem? (i := 36) rfl)) (fun r36 s36 t36 lo36 g36 f36 l36 => ?_)
    obtain ⟨v36, q36, z36, c36⟩ := f36
    cases q36
    rw [g36] at c36
    have hh36 : zh_ok D cA RTg ro sz H0 t36.heap lo36 := ⟨z36.1, z36.2.1, l36, z36.2.2.2⟩
    have kp36 := kp34.trans (c36.mono (ms' := rdMq) (by decide))
    have jfr36 := jfr34.kept hfr c36 (by decide)
    have ju36 := ju34.kept htx c36 (by decide)
    have jdt36 := jdt34.kept hdt rfl (by decide) c36 (by decide)
    have jtm36 := jtm34.kept htm rfl (by decide) c36 (by decide)
    have jlp36 := jlp34.kept hlp c36 (by decide) (by decide) (by decide)
    refine W.eq (g2 := F0 m 66 ls3 [.int v36, .int v35, .int pa, .ref fr]) rfl ?_
    refine ff_i2l hx hb (eX4_stageTime (66, .i2l, 1) (List.mem_of_getElem? (i := 37) rfl)) (fun v37 e37 => ?_)
    refine tz_rowV (As := [.int pa, .int v35, .long v37]) (st := []) (b := fr) (C := RX4) (Ts := gT) hx hb hml hown h2 (fun _ h => h) (ty_V (J := fun _ => True) (vs := [.ref fr, .int pa, .int v35, .long v37]) (ms := [(17, 0)]) (mX4_put l D cA ro sz H0) (ty_pre ⟨Or.inr ⟨_, rfl, hfr⟩, ty_i _, ty_i _, ty_l _, trivial⟩ rfl rfl) rfl rfl) ⟨rfl, rfl⟩ ⟨by decide, by decide⟩ ⟨by decide, by decide⟩ (tb_5 82 rfl rfl) (tb_1 7 rfl rfl) (tb_5 79 rfl rfl) (tb_5 80 rfl rfl) (tb_5 81 rfl rfl) (show yX4_put.cls ≠ "java/lang/invoke/MethodHandle" ∧ yX4_put.cls ≠ "java/lang/invoke/VarHandle" ∧ (parseMethodDescriptor yX4_put.desc).map (fun d => d.parameters.length) = some 3 by decide +kernel) zs_blind (zs_ob hh36 hfr (show RTg[3]? = some (0, 3, 0, fsX4) from rfl) (zCX4 hKn.1)) (fun U hU hW => ⟨rfl, by rw [hU]; exact hh36.l0, zKb s U hW.alike hKn, by rw [hU]; exact trivial⟩) hh36.2.2.1 hl3.1 (Nat.le_of_ble_eq_true rfl) (eX4_stageTime (67, .invokevirtual 82, 3) (List.mem_of_getElem? (i := 38) rfl)) (fun r38 s38 t38 lo38 g38 f38 l38 => ?_)
    obtain ⟨q38, z38, c38⟩ := f38
    cases q38
    rw [g38] at c38
    have hh38 : zh_ok D cA RTg ro sz H0 t38.heap lo38 := ⟨z38.1, z38.2.1, l38, z38.2.2.2⟩
    have kp38 := kp36.trans (c38.mono (ms' := rdMq) (by decide))
    have jfr38 := jfr36.kept hfr c38 (by decide)
    have ju38 := ju36.kept htx c38 (by decide)
    have jdt38 := jdt36.kept hdt rfl (by decide) c38 (by decide)
    have jtm38 := jtm36.kept htm rfl (by decide) c38 (by decide)
    have jlp38 := jlp36.kept hlp c38 (by decide) (by decide) (by decide)
    refine W.eq (g2 := F0 m 70 ls3 []) rfl ?_
    refine lv_aload_n hx hb (eX4_stageTime (70, .aload_n 0, 1) (List.mem_of_getElem? (i := 39) rfl)) rfl (lv_at hl3 1 rfl) ?_
    refine lv_iload_n hx hb (eX4_stageTime (71, .iload_n 1, 1) (List.mem_of_getElem? (i := 40) rfl)) rfl (lv_at hl3 2 rfl) ?_
    refine ff_iconst hx hb (eX4_stageTime (72, .iconst 5, 1) (List.mem_of_getElem? (i := 41) rfl)) (by decide) (by decide) (fun v39 e39 => ?_)
    refine lv_aload_n hx hb (eX4_stageTime (73, .aload_n 0, 1) (List.mem_of_getElem? (i := 42) rfl)) rfl (lv_at hl3 1 rfl) ?_
    refine tz_get (r := 3) (k := 3) (t := (18, 0, 0)) hx hb hh38 hfr rfl rfl (hcl3 21 3 (18, 0, 0) (by decide) rfl).1 jfr38.2.2.2.1 (eX4_stageTime (74, .getfield 21, 3) (List.mem_of_getElem? (i := 43) rfl)) ?_
    refine tz_rowV (As := []) (st := [.int v39, .int pa, .ref fr]) (b := tm) (C := RX8) (Ts := gT) hx hb hml hown h2 (fun _ h => h) (ty_L (J := fun _ => True) (vs := [.ref tm]) (ms := []) (mX8_partNanos l D cA ro sz H0) (ty_pre ⟨Or.inr ⟨_, rfl, htm⟩, trivial⟩ rfl rfl) rfl rfl) ⟨rfl, rfl⟩ ⟨by decide, by decide⟩ ⟨by decide, by decide⟩ (tb_5 76 rfl rfl) (tb_1 9 rfl rfl) (tb_5 88 rfl rfl) (tb_5 74 rfl rfl) (tb_5 75 rfl rfl) (show yX8_partNanos.cls ≠ "java/lang/invoke/MethodHandle" ∧ yX8_partNanos.cls ≠ "java/lang/invoke/VarHandle" ∧ (parseMethodDescriptor yX8_partNanos.desc).map (fun d => d.parameters.length) = some 0 by decide +kernel) zs_blind (zs_ob hh38 htm (show RTg[7]? = some (0, 7, 0, fsX8) from rfl) (zCX8 hKn.1)) (fun U hU hW => ⟨rfl, by rw [hU]; exact hh38.l0, zKb s U hW.alike hKn, by rw [hU]; exact trivial⟩) hh38.2.2.1 hl3.1 (Nat.le_of_ble_eq_true rfl) (eX4_stageTime (77, .invokevirtual 163, 3) (List.mem_of_getElem? (i := 44) rfl)) (fun r40 s40 t40 lo40 g40 f40 l40 => ?_)
    obtain ⟨v40, q40, z40, c40⟩ := f40
    cases q40
    rw [g40] at c40
    have hh40 : zh_ok D cA RTg ro sz H0 t40.heap lo40 := ⟨z40.1, z40.2.1, l40, z40.2.2.2⟩
    have kp40 := kp38.trans (c40.mono (ms' := rdMq) (by decide))
    have jfr40 := jfr38.kept hfr c40 (by decide)
    have ju40 := ju38.kept htx c40 (by decide)
    have jdt40 := jdt38.kept hdt rfl (by decide) c40 (by decide)
    have jtm40 := jtm38.kept htm rfl (by decide) c40 (by decide)
    have jlp40 := jlp38.kept hlp c40 (by decide) (by decide) (by decide)
    refine W.eq (g2 := F0 m 80 ls3 [.long v40, .int v39, .int pa, .ref fr]) rfl ?_
    refine ff_ldc2 (n := 1000000000) hx hb hown h2 (clX4_ok 167 1000000000 (List.mem_of_getElem? (i := 3) rfl)) (eX4_stageTime (80, .ldc2_w 167, 3) (List.mem_of_getElem? (i := 45) rfl)) (fun v41 e41 => ?_)
    refine lv_lrem hx hb (eX4_stageTime (83, .lrem, 1) (List.mem_of_getElem? (i := 46) rfl)) (fun q9 => by rw [q9] at e41; exact absurd e41 (by decide)) ?_
    generalize v40 - v40 / v41 * v41 = v42
    refine tz_rowV (As := [.int pa, .int v39, .long v42]) (st := []) (b := fr) (C := RX4) (Ts := gT) hx hb hml hown h2 (fun _ h => h) (ty_V (J := fun _ => True) (vs := [.ref fr, .int pa, .int v39, .long v42]) (ms := [(17, 0)]) (mX4_put l D cA ro sz H0) (ty_pre ⟨Or.inr ⟨_, rfl, hfr⟩, ty_i _, ty_i _, ty_l _, trivial⟩ rfl rfl) rfl rfl) ⟨rfl, rfl⟩ ⟨by decide, by decide⟩ ⟨by decide, by decide⟩ (tb_5 82 rfl rfl) (tb_1 7 rfl rfl) (tb_5 79 rfl rfl) (tb_5 80 rfl rfl) (tb_5 81 rfl rfl) (show yX4_put.cls ≠ "java/lang/invoke/MethodHandle" ∧ yX4_put.cls ≠ "java/lang/invoke/VarHandle" ∧ (parseMethodDescriptor yX4_put.desc).map (fun d => d.parameters.length) = some 3 by decide +kernel) zs_blind (zs_ob hh40 hfr (show RTg[3]? = some (0, 3, 0, fsX4) from rfl) (zCX4 hKn.1)) (fun U hU hW => ⟨rfl, by rw [hU]; exact hh40.l0, zKb s U hW.alike hKn, by rw [hU]; exact trivial⟩) hh40.2.2.1 hl3.1 (Nat.le_of_ble_eq_true rfl) (eX4_stageTime (84, .invokevirtual 82, 3) (List.mem_of_getElem? (i := 47) rfl)) (fun r43 s43 t43 lo43 g43 f43 l43 => ?_)
    obtain ⟨q43, z43, c43⟩ := f43
    cases q43
    rw [g43] at c43
    have hh43 : zh_ok D cA RTg ro sz H0 t43.heap lo43 := ⟨z43.1, z43.2.1, l43, z43.2.2.2⟩
    have kp43 := kp40.trans (c43.mono (ms' := rdMq) (by decide))
    have jfr43 := jfr40.kept hfr c43 (by decide)
    have ju43 := ju40.kept htx c43 (by decide)
    have jdt43 := jdt40.kept hdt rfl (by decide) c43 (by decide)
    have jtm43 := jtm40.kept htm rfl (by decide) c43 (by decide)
    have jlp43 := jlp40.kept hlp c43 (by decide) (by decide) (by decide)
    refine W.eq (g2 := F0 m 87 ls3 []) rfl ?_
    refine lv_aload_n hx hb (eX4_stageTime (87, .aload_n 0, 1) (List.mem_of_getElem? (i := 48) rfl)) rfl (lv_at hl3 1 rfl) ?_
    refine tz_get (r := 3) (k := 3) (t := (18, 0, 0)) hx hb hh43 hfr rfl rfl (hcl3 21 3 (18, 0, 0) (by decide) rfl).1 jfr43.2.2.2.1 (eX4_stageTime (88, .getfield 21, 3) (List.mem_of_getElem? (i := 49) rfl)) ?_
    obtain ⟨v44, fa44, e44⟩ := jtm43 8 (by decide)
    refine tz_get (r := 7) (k := 8) (t := (0, (-2147483648), 2147483647)) hx hb hh43 htm rfl rfl (hcl7 142 8 (0, (-2147483648), 2147483647) (by decide) rfl).1 fa44 (eX4_stageTime (91, .getfield 142, 3) (List.mem_of_getElem? (i := 50) rfl)) ?_
    refine ff_if_lt hx hb (eX4_stageTime (94, .ifCond .lt 33, 3) (List.mem_of_getElem? (i := 51) rfl)) (tgt := 127) rfl (fun c45 => ?_) (fun c45 => ?_)
    · skip
      have hfin : (x.1, x.2.1, tqF L day x.2.1 x.2.2) = (x.1, x.2.1, x1) := by first | (simp only [hx1, up_eq]; done) | (simp only [hx1, up_eq] <;> rfl) | rfl
      exact W.vret hx hb hr (fun t ht hW => ⟨rfl, by rw [ht]; exact hh43.l0, by rw [ht]; exact kp43, by rw [ht]; first | (rw [hfin]; exact ⟨jfr43, ju43, jdt43, jtm43, jlp43⟩) | exact ⟨jfr43, ju43, jdt43, jtm43, jlp43⟩⟩) hh43.2.2.1 (eX4_stageTime (127, .return_, 1) (List.mem_of_getElem? (i := 68) rfl))
    · skip
      refine lv_aload_n hx hb (eX4_stageTime (97, .aload_n 0, 1) (List.mem_of_getElem? (i := 52) rfl)) rfl (lv_at hl3 1 rfl) ?_
      refine lv_iload_n hx hb (eX4_stageTime (98, .iload_n 1, 1) (List.mem_of_getElem? (i := 53) rfl)) rfl (lv_at hl3 2 rfl) ?_
      refine ff_bipush hx hb (eX4_stageTime (99, .bipush 6, 2) (List.mem_of_getElem? (i := 54) rfl)) (by decide) (by decide) (fun v46 e46 => ?_)
      refine lv_aload_n hx hb (eX4_stageTime (101, .aload_n 0, 1) (List.mem_of_getElem? (i := 55) rfl)) rfl (lv_at hl3 1 rfl) ?_
      refine tz_get (r := 3) (k := 3) (t := (18, 0, 0)) hx hb hh43 hfr rfl rfl (hcl3 21 3 (18, 0, 0) (by decide) rfl).1 jfr43.2.2.2.1 (eX4_stageTime (102, .getfield 21, 3) (List.mem_of_getElem? (i := 56) rfl)) ?_
      refine tz_rowV (As := []) (st := [.int v46, .int pa, .ref fr]) (b := tm) (C := RX8) (Ts := gT) hx hb hml hown h2 (fun _ h => h) (ty_I (J := fun _ => True) (vs := [.ref tm]) (ms := []) (mX8_offsetTold l D cA ro sz H0) (ty_pre ⟨Or.inr ⟨_, rfl, htm⟩, trivial⟩ rfl rfl) rfl rfl) ⟨rfl, rfl⟩ ⟨by decide, by decide⟩ ⟨by decide, by decide⟩ (tb_5 65 rfl rfl) (tb_1 9 rfl rfl) (tb_5 90 rfl rfl) (tb_5 63 rfl rfl) (tb_5 64 rfl rfl) (show yX8_offsetTold.cls ≠ "java/lang/invoke/MethodHandle" ∧ yX8_offsetTold.cls ≠ "java/lang/invoke/VarHandle" ∧ (parseMethodDescriptor yX8_offsetTold.desc).map (fun d => d.parameters.length) = some 0 by decide +kernel) zs_blind (zs_ob hh43 htm (show RTg[7]? = some (0, 7, 0, fsX8) from rfl) (zCX8 hKn.1)) (fun U hU hW => ⟨rfl, by rw [hU]; exact hh43.l0, zKb s U hW.alike hKn, by rw [hU]; exact trivial⟩) hh43.2.2.1 hl3.1 (Nat.le_of_ble_eq_true rfl) (eX4_stageTime (105, .invokevirtual 139, 3) (List.mem_of_getElem? (i := 57) rfl)) (fun r47 s47 t47 lo47 g47 f47 l47 => ?_)
      obtain ⟨v47, q47, z47, c47⟩ := f47
      cases q47
      rw [g47] at c47
      have hh47 : zh_ok D cA RTg ro sz H0 t47.heap lo47 := ⟨z47.1, z47.2.1, l47, z47.2.2.2⟩
      have kp47 := kp43.trans (c47.mono (ms' := rdMq) (by decide))
      have jfr47 := jfr43.kept hfr c47 (by decide)
      have ju47 := ju43.kept htx c47 (by decide)
      have jdt47 := jdt43.kept hdt rfl (by decide) c47 (by decide)
      have jtm47 := jtm43.kept htm rfl (by decide) c47 (by decide)
      have jlp47 := jlp43.kept hlp c47 (by decide) (by decide) (by decide)
      refine W.eq (g2 := F0 m 108 ls3 [.int v47, .int v46, .int pa, .ref fr]) rfl ?_
      refine ff_i2l hx hb (eX4_stageTime (108, .i2l, 1) (List.mem_of_getElem? (i := 58) rfl)) (fun v48 e48 => ?_)
      refine tz_rowV (As := [.int pa, .int v46, .long v48]) (st := []) (b := fr) (C := RX4) (Ts := gT) hx hb hml hown h2 (fun _ h => h) (ty_V (J := fun _ => True) (vs := [.ref fr, .int pa, .int v46, .long v48]) (ms := [(17, 0)]) (mX4_put l D cA ro sz H0) (ty_pre ⟨Or.inr ⟨_, rfl, hfr⟩, ty_i _, ty_i _, ty_l _, trivial⟩ rfl rfl) rfl rfl) ⟨rfl, rfl⟩ ⟨by decide, by decide⟩ ⟨by decide, by decide⟩ (tb_5 82 rfl rfl) (tb_1 7 rfl rfl) (tb_5 79 rfl rfl) (tb_5 80 rfl rfl) (tb_5 81 rfl rfl) (show yX4_put.cls ≠ "java/lang/invoke/MethodHandle" ∧ yX4_put.cls ≠ "java/lang/invoke/VarHandle" ∧ (parseMethodDescriptor yX4_put.desc).map (fun d => d.parameters.length) = some 3 by decide +kernel) zs_blind (zs_ob hh47 hfr (show RTg[3]? = some (0, 3, 0, fsX4) from rfl) (zCX4 hKn.1)) (fun U hU hW => ⟨rfl, by rw [hU]; exact hh47.l0, zKb s U hW.alike hKn, by rw [hU]; exact trivial⟩) hh47.2.2.1 hl3.1 (Nat.le_of_ble_eq_true rfl) (eX4_stageTime (109, .invokevirtual 82, 3) (List.mem_of_getElem? (i := 59) rfl)) (fun r49 s49 t49 lo49 g49 f49 l49 => ?_)
      obtain ⟨q49, z49, c49⟩ := f49
      cases q49
      rw [g49] at c49
      have hh49 : zh_ok D cA RTg ro sz H0 t49.heap lo49 := ⟨z49.1, z49.2.1, l49, z49.2.2.2⟩
      have kp49 := kp47.trans (c49.mono (ms' := rdMq) (by decide))
      have jfr49 := jfr47.kept hfr c49 (by decide)
      have ju49 := ju47.kept htx c49 (by decide)
      have jdt49 := jdt47.kept hdt rfl (by decide) c49 (by decide)
      have jtm49 := jtm47.kept htm rfl (by decide) c49 (by decide)
      have jlp49 := jlp47.kept hlp c49 (by decide) (by decide) (by decide)
      refine W.eq (g2 := F0 m 112 ls3 []) rfl ?_
      refine lv_aload_n hx hb (eX4_stageTime (112, .aload_n 0, 1) (List.mem_of_getElem? (i := 60) rfl)) rfl (lv_at hl3 1 rfl) ?_
      refine lv_iload_n hx hb (eX4_stageTime (113, .iload_n 1, 1) (List.mem_of_getElem? (i := 61) rfl)) rfl (lv_at hl3 2 rfl) ?_
      refine ff_bipush hx hb (eX4_stageTime (114, .bipush 7, 2) (List.mem_of_getElem? (i := 62) rfl)) (by decide) (by decide) (fun v50 e50 => ?_)
      refine lv_aload_n hx hb (eX4_stageTime (116, .aload_n 0, 1) (List.mem_of_getElem? (i := 63) rfl)) rfl (lv_at hl3 1 rfl) ?_
      refine tz_get (r := 3) (k := 3) (t := (18, 0, 0)) hx hb hh49 hfr rfl rfl (hcl3 21 3 (18, 0, 0) (by decide) rfl).1 jfr49.2.2.2.1 (eX4_stageTime (117, .getfield 21, 3) (List.mem_of_getElem? (i := 64) rfl)) ?_
      refine tz_rowV (As := []) (st := [.int v50, .int pa, .ref fr]) (b := tm) (C := RX8) (Ts := gT) hx hb hml hown h2 (fun _ h => h) (ty_I (J := fun _ => True) (vs := [.ref tm]) (ms := []) (mX8_mannerTold l D cA ro sz H0) (ty_pre ⟨Or.inr ⟨_, rfl, htm⟩, trivial⟩ rfl rfl) rfl rfl) ⟨rfl, rfl⟩ ⟨by decide, by decide⟩ ⟨by decide, by decide⟩ (tb_5 94 rfl rfl) (tb_1 9 rfl rfl) (tb_5 91 rfl rfl) (tb_5 92 rfl rfl) (tb_5 93 rfl rfl) (show yX8_mannerTold.cls ≠ "java/lang/invoke/MethodHandle" ∧ yX8_mannerTold.cls ≠ "java/lang/invoke/VarHandle" ∧ (parseMethodDescriptor yX8_mannerTold.desc).map (fun d => d.parameters.length) = some 0 by decide +kernel) zs_blind (zs_ob hh49 htm (show RTg[7]? = some (0, 7, 0, fsX8) from rfl) (zCX8 hKn.1)) (fun U hU hW => ⟨rfl, by rw [hU]; exact hh49.l0, zKb s U hW.alike hKn, by rw [hU]; exact trivial⟩) hh49.2.2.1 hl3.1 (Nat.le_of_ble_eq_true rfl) (eX4_stageTime (120, .invokevirtual 169, 3) (List.mem_of_getElem? (i := 65) rfl)) (fun r51 s51 t51 lo51 g51 f51 l51 => ?_)
      obtain ⟨v51, q51, z51, c51⟩ := f51
      cases q51
      rw [g51] at c51
      have hh51 : zh_ok D cA RTg ro sz H0 t51.heap lo51 := ⟨z51.1, z51.2.1, l51, z51.2.2.2⟩
      have kp51 := kp49.trans (c51.mono (ms' := rdMq) (by decide))
      have jfr51 := jfr49.kept hfr c51 (by decide)
      have ju51 := ju49.kept htx c51 (by decide)
      have jdt51 := jdt49.kept hdt rfl (by decide) c51 (by decide)
      have jtm51 := jtm49.kept htm rfl (by decide) c51 (by decide)
      have jlp51 := jlp49.kept hlp c51 (by decide) (by decide) (by decide)
      refine W.eq (g2 := F0 m 123 ls3 [.int v51, .int v50, .int pa, .ref fr]) rfl ?_
      refine ff_i2l hx hb (eX4_stageTime (123, .i2l, 1) (List.mem_of_getElem? (i := 66) rfl)) (fun v52 e52 => ?_)
      refine tz_rowV (As := [.int pa, .int v50, .long v52]) (st := []) (b := fr) (C := RX4) (Ts := gT) hx hb hml hown h2 (fun _ h => h) (ty_V (J := fun _ => True) (vs := [.ref fr, .int pa, .int v50, .long v52]) (ms := [(17, 0)]) (mX4_put l D cA ro sz H0) (ty_pre ⟨Or.inr ⟨_, rfl, hfr⟩, ty_i _, ty_i _, ty_l _, trivial⟩ rfl rfl) rfl rfl) ⟨rfl, rfl⟩ ⟨by decide, by decide⟩ ⟨by decide, by decide⟩ (tb_5 82 rfl rfl) (tb_1 7 rfl rfl) (tb_5 79 rfl rfl) (tb_5 80 rfl rfl) (tb_5 81 rfl rfl) (show yX4_put.cls ≠ "java/lang/invoke/MethodHandle" ∧ yX4_put.cls ≠ "java/lang/invoke/VarHandle" ∧ (parseMethodDescriptor yX4_put.desc).map (fun d => d.parameters.length) = some 3 by decide +kernel) zs_blind (zs_ob hh51 hfr (show RTg[3]? = some (0, 3, 0, fsX4) from rfl) (zCX4 hKn.1)) (fun U hU hW => ⟨rfl, by rw [hU]; exact hh51.l0, zKb s U hW.alike hKn, by rw [hU]; exact trivial⟩) hh51.2.2.1 hl3.1 (Nat.le_of_ble_eq_true rfl) (eX4_stageTime (124, .invokevirtual 82, 3) (List.mem_of_getElem? (i := 67) rfl)) (fun r53 s53 t53 lo53 g53 f53 l53 => ?_)
      obtain ⟨q53, z53, c53⟩ := f53
      cases q53
      rw [g53] at c53
      have hh53 : zh_ok D cA RTg ro sz H0 t53.heap lo53 := ⟨z53.1, z53.2.1, l53, z53.2.2.2⟩
      have kp53 := kp51.trans (c53.mono (ms' := rdMq) (by decide))
      have jfr53 := jfr51.kept hfr c53 (by decide)
      have ju53 := ju51.kept htx c53 (by decide)
      have jdt53 := jdt51.kept hdt rfl (by decide) c53 (by decide)
      have jtm53 := jtm51.kept htm rfl (by decide) c53 (by decide)
      have jlp53 := jlp51.kept hlp c53 (by decide) (by decide) (by decide)
      refine W.eq (g2 := F0 m 127 ls3 []) rfl ?_
      have hfin : (x.1, x.2.1, tqF L day x.2.1 x.2.2) = (x.1, x.2.1, x1) := by first | (simp only [hx1, up_eq]; done) | (simp only [hx1, up_eq] <;> rfl) | rfl
      exact W.vret hx hb hr (fun t ht hW => ⟨rfl, by rw [ht]; exact hh53.l0, by rw [ht]; exact kp53, by rw [ht]; first | (rw [hfin]; exact ⟨jfr53, ju53, jdt53, jtm53, jlp53⟩) | exact ⟨jfr53, ju53, jdt53, jtm53, jlp53⟩⟩) hh53.2.2.1 (eX4_stageTime (127, .return_, 1) (List.mem_of_getElem? (i := 68) rfl))
set_option maxRecDepth 100000 in
set_option maxHeartbeats 4000000 in
theorem hX4_stageMoment (l : Launch) (D : va_G) (cA : Nat → ClassId) (ro : Nat → Option Nat) (sz : Nat) (H0 : Heap) (fr : Nat) (pa : Int32) (fo : Int32) (dv : Int64) (tx lp dt tm du : Nat) (T L : List Int) (x : mS) (day : Int) (hfr : ro fr = some 3) (htx : ro tx = some 0) (hlp : ro lp = some 4) (hdt : ro dt = some 1) (htm : ro tm = some 7) (hdu : ro du = some 2) (hdv : dv.toInt = day) (hdy : day ≠ NONEI → -365961662 ≤ day ∧ day ≤ 364522971) (htb : day ≠ NONEI → TB x.2.1) : Met l yX4_stageMoment (gW yX4_stageMoment cX4_stageMoment 8 none) { frames := 4, cells := 0, slots := 0, locals := 101 } (zs_PC D cA ro sz H0 (fun H => jRw D cA ro H fr tx lp dt tm du T L x) [.ref fr, .int pa, .int fo, .long dv]) (rd_V D cA ro sz H0 fr tx lp dt tm du T L ((x.1, x.2.1, stpF L day x.2.1 x.2.2))) 0 0 (zy_fr sz) := by
  refine zy_ofW (cc := cX4_stageMoment) (maxL := 8) (ret := none) (by decide +kernel) rfl ?_
  intro p e s m args below meth c s1 B hml hv
  obtain ⟨rfl, hh, ⟨hKn, hBQ, hLQ⟩, hJ⟩ := hv
  have hx := B.exec
  have hb := B.bytes
  have hr := B.returns
  have hlk := B.notSynchronized
  have hts0 := atoms_spec (ws := gW yX4_stageMoment cX4_stageMoment 8 none) B.pre
  have h2 : ∀ w ∈ gT, w.before ([.ref fr, .int pa, .int fo, .long dv] : List Value).toArray s = true := fun w hw => hts0 w (List.mem_cons_of_mem _ hw)
  have hown : s.vm.findClass RX4 = some m.cls := findClass_of_methodNamed B.named
  have hl := lv_entry [.ref fr, .int pa, .int fo, .long dv] (n := 8) (Nat.le_of_ble_eq_true rfl)
  rw [lg_entry_eq]
  generalize (lg_sl [.ref fr, .int pa, .int fo, .long dv] ++ List.replicate (8 - (lg_sl [.ref fr, .int pa, .int fo, .long dv]).length) Slot.unset).toArray = ls at hl ⊢
  have b_pa := zn_i32 pa
  have b_fo := zn_i32 fo
  have b_dv := zn_i64 dv
  have hD := zD_all h2 hKn.1
  have hcl3 := fun (idx k : Nat) (t : zt_T) (h : (idx, 3, k) ∈ gfX4) (hk : fsX4[k]? = some t) => zf_clause (ro := ro) (ms := rdMq) h2 hown hKn.1 gfX4_ok (by decide +kernel) idx 3 k 3 0 fsX4 t h rfl hk
  have hcl0 := fun (idx k : Nat) (t : zt_T) (h : (idx, 0, k) ∈ gfX4) (hk : fsX0[k]? = some t) => zf_clause (ro := ro) (ms := rdMq) h2 hown hKn.1 gfX4_ok (by decide +kernel) idx 0 k 0 0 fsX0 t h rfl hk
  have hcl1 := fun (idx k : Nat) (t : zt_T) (h : (idx, 1, k) ∈ gfX4) (hk : fsX1[k]? = some t) => zf_clause (ro := ro) (ms := rdMq) h2 hown hKn.1 gfX4_ok (by decide +kernel) idx 1 k 1 0 fsX1 t h rfl hk
  have hcl7 := fun (idx k : Nat) (t : zt_T) (h : (idx, 7, k) ∈ gfX4) (hk : fsX8[k]? = some t) => zf_clause (ro := ro) (ms := rdMq) h2 hown hKn.1 gfX4_ok (by decide +kernel) idx 7 k 7 0 fsX8 t h rfl hk
  have hcl2 := fun (idx k : Nat) (t : zt_T) (h : (idx, 2, k) ∈ gfX4) (hk : fsX3[k]? = some t) => zf_clause (ro := ro) (ms := rdMq) h2 hown hKn.1 gfX4_ok (by decide +kernel) idx 2 k 2 0 fsX3 t h rfl hk
  have kp0 : zc_kept D RTg ro rdMq s.heap s.heap := zc_kept.refl
  obtain ⟨jfr0, ju0, jdt0, jtm0, jlp0⟩ := hJ
  have hu := ju0.2.2
  unfold uOK at hu
  refine lv_lload_n hx hb (eX4_stageMoment (0, .lload_n 3, 1) (List.mem_of_getElem? (i := 0) rfl)) rfl (lv_at hl 3 rfl) ?_
  refine ff_ldc2 (n := (-9223372036854775808)) hx hb hown h2 (clX4_ok 49 (-9223372036854775808) (List.mem_of_getElem? (i := 0) rfl)) (eX4_stageMoment (1, .ldc2_w 49, 3) (List.mem_of_getElem? (i := 1) rfl)) (fun v1 e1 => ?_)
  refine ff_lcmp hx hb (eX4_stageMoment (4, .lcmp, 1) (List.mem_of_getElem? (i := 2) rfl)) (fun v2 e2 => ?_)
  refine ff_if_ne hx hb (eX4_stageMoment (5, .ifCond .ne 4, 3) (List.mem_of_getElem? (i := 3) rfl)) (tgt := 9) rfl (fun c3 => ?_) (fun c3 => ?_)
  · have hnn : day ≠ NONEI := by unfold NONEI; omega
    refine lv_aload_n hx hb (eX4_stageMoment (9, .aload_n 0, 1) (List.mem_of_getElem? (i := 5) rfl)) rfl (lv_at hl 0 rfl) ?_
    refine lv_iload_n hx hb (eX4_stageMoment (10, .iload_n 1, 1) (List.mem_of_getElem? (i := 6) rfl)) rfl (lv_at hl 1 rfl) ?_
    refine lv_iload_n hx hb (eX4_stageMoment (11, .iload_n 2, 1) (List.mem_of_getElem? (i := 7) rfl)) rfl (lv_at hl 2 rfl) ?_
    refine lv_lload_n hx hb (eX4_stageMoment (12, .lload_n 3, 1) (List.mem_of_getElem? (i := 8) rfl)) rfl (lv_at hl 3 rfl) ?_
    refine tz_rowV (As := [.int pa, .int fo, .long dv]) (st := []) (b := fr) (C := RX4) (Ts := gT) hx hb hml hown h2 (fun _ h => h) (hX4_stageTime l D cA ro sz H0 fr pa fo dv tx lp dt tm du T L (x.1, x.2.1, x.2.2) day hfr htx hlp hdt htm hdu hdv hdy (htb hnn)) ⟨rfl, rfl⟩ ⟨by decide, by decide⟩ ⟨by decide, by decide⟩ (tb_5 55 rfl rfl) (tb_1 7 rfl rfl) (tb_5 52 rfl rfl) (tb_5 53 rfl rfl) (tb_5 54 rfl rfl) (show yX4_stageTime.cls ≠ "java/lang/invoke/MethodHandle" ∧ yX4_stageTime.cls ≠ "java/lang/invoke/VarHandle" ∧ (parseMethodDescriptor yX4_stageTime.desc).map (fun d => d.parameters.length) = some 3 by decide +kernel) zs_blindC (zs_ob hh hfr (show RTg[3]? = some (0, 3, 0, fsX4) from rfl) (zCX4 hKn.1)) (fun U hU hW => ⟨rfl, by rw [hU]; exact hh.l0, ⟨zKb s U hW.alike hKn, hBQ.alike hW.alike, hLQ.alike hW.alike⟩, by rw [hU]; exact ⟨jfr0, ju0, jdt0, jtm0, jlp0⟩⟩) hh.2.2.1 hl.1 (Nat.le_of_ble_eq_true rfl) (eX4_stageMoment (13, .invokevirtual 92, 3) (List.mem_of_getElem? (i := 9) rfl)) (fun r4 s4 t4 lo4 g4 f4 l4 => ?_)
    obtain ⟨q4, z4, c4, jb4⟩ := f4
    cases q4
    rw [g4] at c4
    have hh4 : zh_ok D cA RTg ro sz H0 t4.heap lo4 := ⟨z4.1, z4.2.1, l4, z4.2.2.2⟩
    have kp4 := kp0.trans (c4.mono (ms' := rdMq) (by decide))
    generalize hx4 : (x.1, x.2.1, tqF L day (x.2.1) x.2.2) = x4 at jb4
    obtain ⟨jfr4, ju4, jdt4, jtm4, jlp4⟩ := jb4
    have uu4 := ju4.2.2
    unfold uOK at uu4
    refine W.eq (g2 := F0 m 16 ls []) rfl ?_
    refine lv_aload_n hx hb (eX4_stageMoment (16, .aload_n 0, 1) (List.mem_of_getElem? (i := 10) rfl)) rfl (lv_at hl 0 rfl) ?_
    refine tz_get (r := 3) (k := 3) (t := (18, 0, 0)) hx hb hh4 hfr rfl rfl (hcl3 21 3 (18, 0, 0) (by decide) rfl).1 jfr4.2.2.2.1 (eX4_stageMoment (17, .getfield 21, 3) (List.mem_of_getElem? (i := 11) rfl)) ?_
    refine tz_rowV (As := []) (st := []) (b := tm) (C := RX8) (Ts := gT) hx hb hml hown h2 (fun _ h => h) (ty_I (J := fun _ => True) (vs := [.ref tm]) (ms := []) (mX8_minuteOfDay l D cA ro sz H0) (ty_pre ⟨Or.inr ⟨_, rfl, htm⟩, trivial⟩ rfl rfl) rfl rfl) ⟨rfl, rfl⟩ ⟨by decide, by decide⟩ ⟨by decide, by decide⟩ (tb_5 72 rfl rfl) (tb_1 9 rfl rfl) (tb_5 69 rfl rfl) (tb_5 70 rfl rfl) (tb_5 71 rfl rfl) (show yX8_minuteOfDay.cls ≠ "java/lang/invoke/MethodHandle" ∧ yX8_minuteOfDay.cls ≠ "java/lang/invoke/VarHandle" ∧ (parseMethodDescriptor yX8_minuteOfDay.desc).map (fun d => d.parameters.length) = some 0 by decide +kernel) zs_blind (zs_ob hh4 htm (show RTg[7]? = some (0, 7, 0, fsX8) from rfl) (zCX8 hKn.1)) (fun U hU hW => ⟨rfl, by rw [hU]; exact hh4.l0, zKb s U hW.alike hKn, by rw [hU]; exact trivial⟩) hh4.2.2.1 hl.1 (Nat.le_of_ble_eq_true rfl) (eX4_stageMoment (20, .invokevirtual 133, 3) (List.mem_of_getElem? (i := 12) rfl)) (fun r5 s5 t5 lo5 g5 f5 l5 => ?_)
    obtain ⟨v5, q5, z5, c5⟩ := f5
    cases q5
    rw [g5] at c5
    have hh5 : zh_ok D cA RTg ro sz H0 t5.heap lo5 := ⟨z5.1, z5.2.1, l5, z5.2.2.2⟩
    have kp5 := kp4.trans (c5.mono (ms' := rdMq) (by decide))
    have jfr5 := jfr4.kept hfr c5 (by decide)
    have ju5 := ju4.kept htx c5 (by decide)
    have jdt5 := jdt4.kept hdt rfl (by decide) c5 (by decide)
    have jtm5 := jtm4.kept htm rfl (by decide) c5 (by decide)
    have jlp5 := jlp4.kept hlp c5 (by decide) (by decide) (by decide)
    refine W.eq (g2 := F0 m 23 ls [.int v5]) rfl ?_
    refine lv_istore hx hb (eX4_stageMoment (23, .istore 5, 2) (List.mem_of_getElem? (i := 13) rfl)) hl (by decide) rfl (fun ls6 hl6 => ?_)
    refine lv_aload_n hx hb (eX4_stageMoment (25, .aload_n 0, 1) (List.mem_of_getElem? (i := 14) rfl)) rfl (lv_at hl6 1 rfl) ?_
    refine lv_iload_n hx hb (eX4_stageMoment (26, .iload_n 1, 1) (List.mem_of_getElem? (i := 15) rfl)) rfl (lv_at hl6 2 rfl) ?_
    refine ff_iconst hx hb (eX4_stageMoment (27, .iconst 1, 1) (List.mem_of_getElem? (i := 16) rfl)) (by decide) (by decide) (fun v7 e7 => ?_)
    refine lv_aload_n hx hb (eX4_stageMoment (28, .aload_n 0, 1) (List.mem_of_getElem? (i := 17) rfl)) rfl (lv_at hl6 1 rfl) ?_
    refine tz_get (r := 3) (k := 2) (t := (6, 0, 0)) hx hb hh5 hfr rfl rfl (hcl3 12 2 (6, 0, 0) (by decide) rfl).1 jfr5.2.2.1 (eX4_stageMoment (29, .getfield 12, 3) (List.mem_of_getElem? (i := 18) rfl)) ?_
    obtain ⟨v8, fa8, e8⟩ := jdt5 0 (by decide)
    refine tz_get (r := 1) (k := 0) (t := (0, (-2147483648), 2147483647)) hx hb hh5 hdt rfl rfl (hcl1 85 0 (0, (-2147483648), 2147483647) (by decide) rfl).1 fa8 (eX4_stageMoment (32, .getfield 85, 3) (List.mem_of_getElem? (i := 19) rfl)) ?_
    refine ff_i2l hx hb (eX4_stageMoment (35, .i2l, 1) (List.mem_of_getElem? (i := 20) rfl)) (fun v9 e9 => ?_)
    refine tz_rowV (As := [.int pa, .int v7, .long v9]) (st := []) (b := fr) (C := RX4) (Ts := gT) hx hb hml hown h2 (fun _ h => h) (ty_V (J := fun _ => True) (vs := [.ref fr, .int pa, .int v7, .long v9]) (ms := [(17, 0)]) (mX4_put l D cA ro sz H0) (ty_pre ⟨Or.inr ⟨_, rfl, hfr⟩, ty_i _, ty_i _, ty_l _, trivial⟩ rfl rfl) rfl rfl) ⟨rfl, rfl⟩ ⟨by decide, by decide⟩ ⟨by decide, by decide⟩ (tb_5 82 rfl rfl) (tb_1 7 rfl rfl) (tb_5 79 rfl rfl) (tb_5 80 rfl rfl) (tb_5 81 rfl rfl) (show yX4_put.cls ≠ "java/lang/invoke/MethodHandle" ∧ yX4_put.cls ≠ "java/lang/invoke/VarHandle" ∧ (parseMethodDescriptor yX4_put.desc).map (fun d => d.parameters.length) = some 3 by decide +kernel) zs_blind (zs_ob hh5 hfr (show RTg[3]? = some (0, 3, 0, fsX4) from rfl) (zCX4 hKn.1)) (fun U hU hW => ⟨rfl, by rw [hU]; exact hh5.l0, zKb s U hW.alike hKn, by rw [hU]; exact trivial⟩) hh5.2.2.1 hl6.1 (Nat.le_of_ble_eq_true rfl) (eX4_stageMoment (36, .invokevirtual 82, 3) (List.mem_of_getElem? (i := 21) rfl)) (fun r10 s10 t10 lo10 g10 f10 l10 => ?_)
    obtain ⟨q10, z10, c10⟩ := f10
    cases q10
    rw [g10] at c10
    have hh10 : zh_ok D cA RTg ro sz H0 t10.heap lo10 := ⟨z10.1, z10.2.1, l10, z10.2.2.2⟩
    have kp10 := kp5.trans (c10.mono (ms' := rdMq) (by decide))
    have jfr10 := jfr5.kept hfr c10 (by decide)
    have ju10 := ju5.kept htx c10 (by decide)
    have jdt10 := jdt5.kept hdt rfl (by decide) c10 (by decide)
    have jtm10 := jtm5.kept htm rfl (by decide) c10 (by decide)
    have jlp10 := jlp5.kept hlp c10 (by decide) (by decide) (by decide)
    refine W.eq (g2 := F0 m 39 ls6 []) rfl ?_
    refine lv_aload_n hx hb (eX4_stageMoment (39, .aload_n 0, 1) (List.mem_of_getElem? (i := 22) rfl)) rfl (lv_at hl6 1 rfl) ?_
    refine lv_iload_n hx hb (eX4_stageMoment (40, .iload_n 1, 1) (List.mem_of_getElem? (i := 23) rfl)) rfl (lv_at hl6 2 rfl) ?_
    refine ff_iconst hx hb (eX4_stageMoment (41, .iconst 2, 1) (List.mem_of_getElem? (i := 24) rfl)) (by decide) (by decide) (fun v11 e11 => ?_)
    refine lv_iload hx hb (eX4_stageMoment (42, .iload 5, 2) (List.mem_of_getElem? (i := 25) rfl)) (lv_at hl6 0 rfl) ?_
    refine ff_i2l hx hb (eX4_stageMoment (44, .i2l, 1) (List.mem_of_getElem? (i := 26) rfl)) (fun v12 e12 => ?_)
    refine ff_ldc2 (n := 1440) hx hb hown h2 (clX4_ok 137 1440 (List.mem_of_getElem? (i := 2) rfl)) (eX4_stageMoment (45, .ldc2_w 137, 3) (List.mem_of_getElem? (i := 27) rfl)) (fun v13 e13 => ?_)
    refine ff_lcmp hx hb (eX4_stageMoment (48, .lcmp, 1) (List.mem_of_getElem? (i := 28) rfl)) (fun v14 e14 => ?_)
    refine ff_if_ge hx hb (eX4_stageMoment (49, .ifCond .ge 7, 3) (List.mem_of_getElem? (i := 29) rfl)) (tgt := 56) rfl (fun c15 => ?_) (fun c15 => ?_)
    · skip
      refine lv_lload_n hx hb (eX4_stageMoment (56, .lload_n 3, 1) (List.mem_of_getElem? (i := 32) rfl)) rfl (lv_at hl6 4 rfl) ?_
      refine ff_lconst hx hb (eX4_stageMoment (57, .lconst 1, 1) (List.mem_of_getElem? (i := 33) rfl)) rfl (fun v16 e16 => ?_)
      refine lv_ladd hx hb (eX4_stageMoment (58, .ladd, 1) (List.mem_of_getElem? (i := 34) rfl)) ?_
      generalize dv + v16 = v17
      refine tz_rowV (As := [.int pa, .int v11, .long v17]) (st := []) (b := fr) (C := RX4) (Ts := gT) hx hb hml hown h2 (fun _ h => h) (ty_V (J := fun _ => True) (vs := [.ref fr, .int pa, .int v11, .long v17]) (ms := [(17, 0)]) (mX4_put l D cA ro sz H0) (ty_pre ⟨Or.inr ⟨_, rfl, hfr⟩, ty_i _, ty_i _, ty_l _, trivial⟩ rfl rfl) rfl rfl) ⟨rfl, rfl⟩ ⟨by decide, by decide⟩ ⟨by decide, by decide⟩ (tb_5 82 rfl rfl) (tb_1 7 rfl rfl) (tb_5 79 rfl rfl) (tb_5 80 rfl rfl) (tb_5 81 rfl rfl) (show yX4_put.cls ≠ "java/lang/invoke/MethodHandle" ∧ yX4_put.cls ≠ "java/lang/invoke/VarHandle" ∧ (parseMethodDescriptor yX4_put.desc).map (fun d => d.parameters.length) = some 3 by decide +kernel) zs_blind (zs_ob hh10 hfr (show RTg[3]? = some (0, 3, 0, fsX4) from rfl) (zCX4 hKn.1)) (fun U hU hW => ⟨rfl, by rw [hU]; exact hh10.l0, zKb s U hW.alike hKn, by rw [hU]; exact trivial⟩) hh10.2.2.1 hl6.1 (Nat.le_of_ble_eq_true rfl) (eX4_stageMoment (59, .invokevirtual 82, 3) (List.mem_of_getElem? (i := 35) rfl)) (fun r18 s18 t18 lo18 g18 f18 l18 => ?_)
      obtain ⟨q18, z18, c18⟩ := f18
      cases q18
      rw [g18] at c18
      have hh18 : zh_ok D cA RTg ro sz H0 t18.heap lo18 := ⟨z18.1, z18.2.1, l18, z18.2.2.2⟩
      have kp18 := kp10.trans (c18.mono (ms' := rdMq) (by decide))
      have jfr18 := jfr10.kept hfr c18 (by decide)
      have ju18 := ju10.kept htx c18 (by decide)
      have jdt18 := jdt10.kept hdt rfl (by decide) c18 (by decide)
      have jtm18 := jtm10.kept htm rfl (by decide) c18 (by decide)
      have jlp18 := jlp10.kept hlp c18 (by decide) (by decide) (by decide)
      refine W.eq (g2 := F0 m 62 ls6 []) rfl ?_
      refine lv_lload_n hx hb (eX4_stageMoment (62, .lload_n 3, 1) (List.mem_of_getElem? (i := 36) rfl)) rfl (lv_at hl6 4 rfl) ?_
      refine ff_ldc2 (n := 1440) hx hb hown h2 (clX4_ok 137 1440 (List.mem_of_getElem? (i := 2) rfl)) (eX4_stageMoment (63, .ldc2_w 137, 3) (List.mem_of_getElem? (i := 37) rfl)) (fun v19 e19 => ?_)
      refine lv_lmul hx hb (eX4_stageMoment (66, .lmul, 1) (List.mem_of_getElem? (i := 38) rfl)) ?_
      generalize dv * v19 = v20
      refine lv_iload hx hb (eX4_stageMoment (67, .iload 5, 2) (List.mem_of_getElem? (i := 39) rfl)) (lv_at hl6 0 rfl) ?_
      refine ff_i2l hx hb (eX4_stageMoment (69, .i2l, 1) (List.mem_of_getElem? (i := 40) rfl)) (fun v21 e21 => ?_)
      refine lv_ladd hx hb (eX4_stageMoment (70, .ladd, 1) (List.mem_of_getElem? (i := 41) rfl)) ?_
      generalize v20 + v21 = v22
      refine lv_aload_n hx hb (eX4_stageMoment (71, .aload_n 0, 1) (List.mem_of_getElem? (i := 42) rfl)) rfl (lv_at hl6 1 rfl) ?_
      refine tz_get (r := 3) (k := 3) (t := (18, 0, 0)) hx hb hh18 hfr rfl rfl (hcl3 21 3 (18, 0, 0) (by decide) rfl).1 jfr18.2.2.2.1 (eX4_stageMoment (72, .getfield 21, 3) (List.mem_of_getElem? (i := 43) rfl)) ?_
      refine tz_rowV (As := []) (st := [.long v22]) (b := tm) (C := RX8) (Ts := gT) hx hb hml hown h2 (fun _ h => h) (ty_I (J := fun _ => True) (vs := [.ref tm]) (ms := []) (mX8_offsetTold l D cA ro sz H0) (ty_pre ⟨Or.inr ⟨_, rfl, htm⟩, trivial⟩ rfl rfl) rfl rfl) ⟨rfl, rfl⟩ ⟨by decide, by decide⟩ ⟨by decide, by decide⟩ (tb_5 65 rfl rfl) (tb_1 9 rfl rfl) (tb_5 90 rfl rfl) (tb_5 63 rfl rfl) (tb_5 64 rfl rfl) (show yX8_offsetTold.cls ≠ "java/lang/invoke/MethodHandle" ∧ yX8_offsetTold.cls ≠ "java/lang/invoke/VarHandle" ∧ (parseMethodDescriptor yX8_offsetTold.desc).map (fun d => d.parameters.length) = some 0 by decide +kernel) zs_blind (zs_ob hh18 htm (show RTg[7]? = some (0, 7, 0, fsX8) from rfl) (zCX8 hKn.1)) (fun U hU hW => ⟨rfl, by rw [hU]; exact hh18.l0, zKb s U hW.alike hKn, by rw [hU]; exact trivial⟩) hh18.2.2.1 hl6.1 (Nat.le_of_ble_eq_true rfl) (eX4_stageMoment (75, .invokevirtual 139, 3) (List.mem_of_getElem? (i := 44) rfl)) (fun r23 s23 t23 lo23 g23 f23 l23 => ?_)
      obtain ⟨v23, q23, z23, c23⟩ := f23
      cases q23
      rw [g23] at c23
      have hh23 : zh_ok D cA RTg ro sz H0 t23.heap lo23 := ⟨z23.1, z23.2.1, l23, z23.2.2.2⟩
      have kp23 := kp18.trans (c23.mono (ms' := rdMq) (by decide))
      have jfr23 := jfr18.kept hfr c23 (by decide)
      have ju23 := ju18.kept htx c23 (by decide)
      have jdt23 := jdt18.kept hdt rfl (by decide) c23 (by decide)
      have jtm23 := jtm18.kept htm rfl (by decide) c23 (by decide)
      have jlp23 := jlp18.kept hlp c23 (by decide) (by decide) (by decide)
      refine W.eq (g2 := F0 m 78 ls6 [.int v23, .long v22]) rfl ?_
      refine ff_i2l hx hb (eX4_stageMoment (78, .i2l, 1) (List.mem_of_getElem? (i := 45) rfl)) (fun v24 e24 => ?_)
      refine lv_lsub hx hb (eX4_stageMoment (79, .lsub, 1) (List.mem_of_getElem? (i := 46) rfl)) ?_
      generalize v22 - v24 = v25
      refine lv_lstore hx hb (eX4_stageMoment (80, .lstore 6, 2) (List.mem_of_getElem? (i := 47) rfl)) hl6 (by decide) rfl (fun ls26 hl26 => ?_)
      refine lv_aload_n hx hb (eX4_stageMoment (82, .aload_n 0, 1) (List.mem_of_getElem? (i := 48) rfl)) rfl (lv_at hl26 2 rfl) ?_
      refine tz_get (r := 3) (k := 3) (t := (18, 0, 0)) hx hb hh23 hfr rfl rfl (hcl3 21 3 (18, 0, 0) (by decide) rfl).1 jfr23.2.2.2.1 (eX4_stageMoment (83, .getfield 21, 3) (List.mem_of_getElem? (i := 49) rfl)) ?_
      obtain ⟨v27, fa27, e27⟩ := jtm23 8 (by decide)
      refine tz_get (r := 7) (k := 8) (t := (0, (-2147483648), 2147483647)) hx hb hh23 htm rfl rfl (hcl7 142 8 (0, (-2147483648), 2147483647) (by decide) rfl).1 fa27 (eX4_stageMoment (86, .getfield 142, 3) (List.mem_of_getElem? (i := 50) rfl)) ?_
      refine ff_if_lt hx hb (eX4_stageMoment (89, .ifCond .lt 34, 3) (List.mem_of_getElem? (i := 51) rfl)) (tgt := 123) rfl (fun c28 => ?_) (fun c28 => ?_)
      · skip
        have hfin : (x.1, x.2.1, stpF L day x.2.1 x.2.2) = (x4.1, x4.2.1, x4.2.2) := by first | (simp only [stpF, hx4, if_neg hnn, up_eq]; done) | (simp only [stpF, hx4, if_neg hnn, up_eq] <;> rfl) | rfl
        exact W.vret hx hb hr (fun t ht hW => ⟨rfl, by rw [ht]; exact hh23.l0, by rw [ht]; exact kp23, by rw [ht]; first | (rw [hfin]; exact ⟨jfr23, ju23, jdt23, jtm23, jlp23⟩) | exact ⟨jfr23, ju23, jdt23, jtm23, jlp23⟩⟩) hh23.2.2.1 (eX4_stageMoment (123, .return_, 1) (List.mem_of_getElem? (i := 66) rfl))
      · skip
        refine lv_lload hx hb (eX4_stageMoment (92, .lload 6, 2) (List.mem_of_getElem? (i := 52) rfl)) (lv_at hl26 0 rfl) ?_
        refine zu_S (vs := [.long v25]) (rest := []) hx hb hml hown hts0 zu_BT (hX2_holdsMinute l v25) ⟨rfl, rfl⟩ ⟨by decide, by decide⟩ ⟨by decide, by decide⟩ (tb_3 108 rfl rfl) (tb_1 13 rfl rfl) (tb_5 95 rfl rfl) (tb_3 107 rfl rfl) (show yX2_holdsMinute.cls ≠ "java/lang/invoke/MethodHandle" ∧ yX2_holdsMinute.cls ≠ "java/lang/invoke/VarHandle" ∧ (parseMethodDescriptor yX2_holdsMinute.desc).map (fun d => d.parameters.length) = some 1 by decide +kernel) rfl (fun _ _ _ => trivial) hl26.1 (Nat.le_of_ble_eq_true rfl) (eX4_stageMoment (94, .invokestatic 145, 3) (List.mem_of_getElem? (i := 53) rfl)) (fun w29 f29 => ?_)
        obtain ⟨v29, rfl, e29⟩ := f29
        refine ff_if_eq hx hb (eX4_stageMoment (97, .ifCond .eq 26, 3) (List.mem_of_getElem? (i := 54) rfl)) (tgt := 123) rfl (fun c30 => ?_) (fun c30 => ?_)
        · skip
          have hfin : (x.1, x.2.1, stpF L day x.2.1 x.2.2) = (x4.1, x4.2.1, x4.2.2) := by first | (simp only [stpF, hx4, if_neg hnn, up_eq]; done) | (simp only [stpF, hx4, if_neg hnn, up_eq] <;> rfl) | rfl
          exact W.vret hx hb hr (fun t ht hW => ⟨rfl, by rw [ht]; exact hh23.l0, by rw [ht]; exact kp23, by rw [ht]; first | (rw [hfin]; exact ⟨jfr23, ju23, jdt23, jtm23, jlp23⟩) | exact ⟨jfr23, ju23, jdt23, jtm23, jlp23⟩⟩) hh23.2.2.1 (eX4_stageMoment (123, .return_, 1) (List.mem_of_getElem? (i := 66) rfl))
        · skip
          refine lv_aload_n hx hb (eX4_stageMoment (100, .aload_n 0, 1) (List.mem_of_getElem? (i := 55) rfl)) rfl (lv_at hl26 2 rfl) ?_
          refine lv_iload_n hx hb (eX4_stageMoment (101, .iload_n 1, 1) (List.mem_of_getElem? (i := 56) rfl)) rfl (lv_at hl26 3 rfl) ?_
          refine ff_bipush hx hb (eX4_stageMoment (102, .bipush 8, 2) (List.mem_of_getElem? (i := 57) rfl)) (by decide) (by decide) (fun v31 e31 => ?_)
          refine lv_aload_n hx hb (eX4_stageMoment (104, .aload_n 0, 1) (List.mem_of_getElem? (i := 58) rfl)) rfl (lv_at hl26 2 rfl) ?_
          refine tz_get (r := 3) (k := 1) (t := (12, 0, 0)) hx hb hh23 hfr rfl rfl (hcl3 40 1 (12, 0, 0) (by decide) rfl).1 jfr23.2.1 (eX4_stageMoment (105, .getfield 40, 3) (List.mem_of_getElem? (i := 59) rfl)) ?_
          refine lv_lload hx hb (eX4_stageMoment (108, .lload 6, 2) (List.mem_of_getElem? (i := 60) rfl)) (lv_at hl26 0 rfl) ?_
          refine lv_aload_n hx hb (eX4_stageMoment (110, .aload_n 0, 1) (List.mem_of_getElem? (i := 61) rfl)) rfl (lv_at hl26 2 rfl) ?_
          refine tz_get (r := 3) (k := 3) (t := (18, 0, 0)) hx hb hh23 hfr rfl rfl (hcl3 21 3 (18, 0, 0) (by decide) rfl).1 jfr23.2.2.2.1 (eX4_stageMoment (111, .getfield 21, 3) (List.mem_of_getElem? (i := 62) rfl)) ?_
          refine tz_rowV (As := []) (st := [.long v25, .ref lp, .int v31, .int pa, .ref fr]) (b := tm) (C := RX8) (Ts := gT) hx hb hml hown h2 (fun _ h => h) (ty_I (J := fun _ => True) (vs := [.ref tm]) (ms := []) (mX8_secondOfMinute l D cA ro sz H0) (ty_pre ⟨Or.inr ⟨_, rfl, htm⟩, trivial⟩ rfl rfl) rfl rfl) ⟨rfl, rfl⟩ ⟨by decide, by decide⟩ ⟨by decide, by decide⟩ (tb_5 87 rfl rfl) (tb_1 9 rfl rfl) (tb_5 84 rfl rfl) (tb_5 85 rfl rfl) (tb_5 86 rfl rfl) (show yX8_secondOfMinute.cls ≠ "java/lang/invoke/MethodHandle" ∧ yX8_secondOfMinute.cls ≠ "java/lang/invoke/VarHandle" ∧ (parseMethodDescriptor yX8_secondOfMinute.desc).map (fun d => d.parameters.length) = some 0 by decide +kernel) zs_blind (zs_ob hh23 htm (show RTg[7]? = some (0, 7, 0, fsX8) from rfl) (zCX8 hKn.1)) (fun U hU hW => ⟨rfl, by rw [hU]; exact hh23.l0, zKb s U hW.alike hKn, by rw [hU]; exact trivial⟩) hh23.2.2.1 hl26.1 (Nat.le_of_ble_eq_true rfl) (eX4_stageMoment (114, .invokevirtual 151, 3) (List.mem_of_getElem? (i := 63) rfl)) (fun r32 s32 t32 lo32 g32 f32 l32 => ?_)
          obtain ⟨v32, q32, z32, c32⟩ := f32
          cases q32
          rw [g32] at c32
          have hh32 : zh_ok D cA RTg ro sz H0 t32.heap lo32 := ⟨z32.1, z32.2.1, l32, z32.2.2.2⟩
          have kp32 := kp23.trans (c32.mono (ms' := rdMq) (by decide))
          have jfr32 := jfr23.kept hfr c32 (by decide)
          have ju32 := ju23.kept htx c32 (by decide)
          have jdt32 := jdt23.kept hdt rfl (by decide) c32 (by decide)
          have jtm32 := jtm23.kept htm rfl (by decide) c32 (by decide)
          have jlp32 := jlp23.kept hlp c32 (by decide) (by decide) (by decide)
          refine W.eq (g2 := F0 m 117 ls26 [.int v32, .long v25, .ref lp, .int v31, .int pa, .ref fr]) rfl ?_
          refine tz_rowV (As := [.long v25, .int v32]) (st := [.int v31, .int pa, .ref fr]) (b := lp) (C := RX5) (Ts := gT) hx hb hml hown h2 (fun _ h => h) (ty_L (J := fun _ => True) (vs := [.ref lp, .long v25, .int v32]) (ms := []) (mX5_instantOf l D cA ro sz H0) (ty_pre ⟨Or.inr ⟨_, rfl, hlp⟩, ty_l _, ty_i _, trivial⟩ rfl rfl) rfl rfl) ⟨rfl, rfl⟩ ⟨by decide, by decide⟩ ⟨by decide, by decide⟩ (tb_3 123 rfl rfl) (tb_1 2 rfl rfl) (tb_5 96 rfl rfl) (tb_3 121 rfl rfl) (tb_3 122 rfl rfl) (show yX5_instantOf.cls ≠ "java/lang/invoke/MethodHandle" ∧ yX5_instantOf.cls ≠ "java/lang/invoke/VarHandle" ∧ (parseMethodDescriptor yX5_instantOf.desc).map (fun d => d.parameters.length) = some 2 by decide +kernel) zs_blind (zs_ob hh32 hlp (show RTg[4]? = some (0, 4, 0, fsX5) from rfl) (zCX5 hKn.1)) (fun U hU hW => ⟨rfl, by rw [hU]; exact hh32.l0, zKb s U hW.alike hKn, by rw [hU]; exact trivial⟩) hh32.2.2.1 hl26.1 (Nat.le_of_ble_eq_true rfl) (eX4_stageMoment (117, .invokevirtual 154, 3) (List.mem_of_getElem? (i := 64) rfl)) (fun r33 s33 t33 lo33 g33 f33 l33 => ?_)
          obtain ⟨v33, q33, z33, c33⟩ := f33
          cases q33
          rw [g33] at c33
          have hh33 : zh_ok D cA RTg ro sz H0 t33.heap lo33 := ⟨z33.1, z33.2.1, l33, z33.2.2.2⟩
          have kp33 := kp32.trans (c33.mono (ms' := rdMq) (by decide))
          have jfr33 := jfr32.kept hfr c33 (by decide)
          have ju33 := ju32.kept htx c33 (by decide)
          have jdt33 := jdt32.kept hdt rfl (by decide) c33 (by decide)
          have jtm33 := jtm32.kept htm rfl (by decide) c33 (by decide)
          have jlp33 := jlp32.kept hlp c33 (by decide) (by decide) (by decide)
          refine W.eq (g2 := F0 m 120 ls26 [.long v33, .int v31, .int pa, .ref fr]) rfl ?_
          refine tz_rowV (As := [.int pa, .int v31, .long v33]) (st := []) (b := fr) (C := RX4) (Ts := gT) hx hb hml hown h2 (fun _ h => h) (ty_V (J := fun _ => True) (vs := [.ref fr, .int pa, .int v31, .long v33]) (ms := [(17, 0)]) (mX4_put l D cA ro sz H0) (ty_pre ⟨Or.inr ⟨_, rfl, hfr⟩, ty_i _, ty_i _, ty_l _, trivial⟩ rfl rfl) rfl rfl) ⟨rfl, rfl⟩ ⟨by decide, by decide⟩ ⟨by decide, by decide⟩ (tb_5 82 rfl rfl) (tb_1 7 rfl rfl) (tb_5 79 rfl rfl) (tb_5 80 rfl rfl) (tb_5 81 rfl rfl) (show yX4_put.cls ≠ "java/lang/invoke/MethodHandle" ∧ yX4_put.cls ≠ "java/lang/invoke/VarHandle" ∧ (parseMethodDescriptor yX4_put.desc).map (fun d => d.parameters.length) = some 3 by decide +kernel) zs_blind (zs_ob hh33 hfr (show RTg[3]? = some (0, 3, 0, fsX4) from rfl) (zCX4 hKn.1)) (fun U hU hW => ⟨rfl, by rw [hU]; exact hh33.l0, zKb s U hW.alike hKn, by rw [hU]; exact trivial⟩) hh33.2.2.1 hl26.1 (Nat.le_of_ble_eq_true rfl) (eX4_stageMoment (120, .invokevirtual 82, 3) (List.mem_of_getElem? (i := 65) rfl)) (fun r34 s34 t34 lo34 g34 f34 l34 => ?_)
          obtain ⟨q34, z34, c34⟩ := f34
          cases q34
          rw [g34] at c34
          have hh34 : zh_ok D cA RTg ro sz H0 t34.heap lo34 := ⟨z34.1, z34.2.1, l34, z34.2.2.2⟩
          have kp34 := kp33.trans (c34.mono (ms' := rdMq) (by decide))
          have jfr34 := jfr33.kept hfr c34 (by decide)
          have ju34 := ju33.kept htx c34 (by decide)
          have jdt34 := jdt33.kept hdt rfl (by decide) c34 (by decide)
          have jtm34 := jtm33.kept htm rfl (by decide) c34 (by decide)
          have jlp34 := jlp33.kept hlp c34 (by decide) (by decide) (by decide)
          refine W.eq (g2 := F0 m 123 ls26 []) rfl ?_
          have hfin : (x.1, x.2.1, stpF L day x.2.1 x.2.2) = (x4.1, x4.2.1, x4.2.2) := by first | (simp only [stpF, hx4, if_neg hnn, up_eq]; done) | (simp only [stpF, hx4, if_neg hnn, up_eq] <;> rfl) | rfl
          exact W.vret hx hb hr (fun t ht hW => ⟨rfl, by rw [ht]; exact hh34.l0, by rw [ht]; exact kp34, by rw [ht]; first | (rw [hfin]; exact ⟨jfr34, ju34, jdt34, jtm34, jlp34⟩) | exact ⟨jfr34, ju34, jdt34, jtm34, jlp34⟩⟩) hh34.2.2.1 (eX4_stageMoment (123, .return_, 1) (List.mem_of_getElem? (i := 66) rfl))
    · skip
      refine lv_lload_n hx hb (eX4_stageMoment (52, .lload_n 3, 1) (List.mem_of_getElem? (i := 30) rfl)) rfl (lv_at hl6 4 rfl) ?_
      refine lv_goto hx hb (eX4_stageMoment (53, .goto 6, 3) (List.mem_of_getElem? (i := 31) rfl)) (tgt := 59) rfl ?_
      refine tz_rowV (As := [.int pa, .int v11, .long dv]) (st := []) (b := fr) (C := RX4) (Ts := gT) hx hb hml hown h2 (fun _ h => h) (ty_V (J := fun _ => True) (vs := [.ref fr, .int pa, .int v11, .long dv]) (ms := [(17, 0)]) (mX4_put l D cA ro sz H0) (ty_pre ⟨Or.inr ⟨_, rfl, hfr⟩, ty_i _, ty_i _, ty_l _, trivial⟩ rfl rfl) rfl rfl) ⟨rfl, rfl⟩ ⟨by decide, by decide⟩ ⟨by decide, by decide⟩ (tb_5 82 rfl rfl) (tb_1 7 rfl rfl) (tb_5 79 rfl rfl) (tb_5 80 rfl rfl) (tb_5 81 rfl rfl) (show yX4_put.cls ≠ "java/lang/invoke/MethodHandle" ∧ yX4_put.cls ≠ "java/lang/invoke/VarHandle" ∧ (parseMethodDescriptor yX4_put.desc).map (fun d => d.parameters.length) = some 3 by decide +kernel) zs_blind (zs_ob hh10 hfr (show RTg[3]? = some (0, 3, 0, fsX4) from rfl) (zCX4 hKn.1)) (fun U hU hW => ⟨rfl, by rw [hU]; exact hh10.l0, zKb s U hW.alike hKn, by rw [hU]; exact trivial⟩) hh10.2.2.1 hl6.1 (Nat.le_of_ble_eq_true rfl) (eX4_stageMoment (59, .invokevirtual 82, 3) (List.mem_of_getElem? (i := 35) rfl)) (fun r35 s35 t35 lo35 g35 f35 l35 => ?_)
      obtain ⟨q35, z35, c35⟩ := f35
      cases q35
      rw [g35] at c35
      have hh35 : zh_ok D cA RTg ro sz H0 t35.heap lo35 := ⟨z35.1, z35.2.1, l35, z35.2.2.2⟩
      have kp35 := kp10.trans (c35.mono (ms' := rdMq) (by decide))
      have jfr35 := jfr10.kept hfr c35 (by decide)
      have ju35 := ju10.kept htx c35 (by decide)
      have jdt35 := jdt10.kept hdt rfl (by decide) c35 (by decide)
      have jtm35 := jtm10.kept htm rfl (by decide) c35 (by decide)
      have jlp35 := jlp10.kept hlp c35 (by decide) (by decide) (by decide)
      refine W.eq (g2 := F0 m 62 ls6 []) rfl ?_
      refine lv_lload_n hx hb (eX4_stageMoment (62, .lload_n 3, 1) (List.mem_of_getElem? (i := 36) rfl)) rfl (lv_at hl6 4 rfl) ?_
      refine ff_ldc2 (n := 1440) hx hb hown h2 (clX4_ok 137 1440 (List.mem_of_getElem? (i := 2) rfl)) (eX4_stageMoment (63, .ldc2_w 137, 3) (List.mem_of_getElem? (i := 37) rfl)) (fun v36 e36 => ?_)
      refine lv_lmul hx hb (eX4_stageMoment (66, .lmul, 1) (List.mem_of_getElem? (i := 38) rfl)) ?_
      generalize dv * v36 = v37
      refine lv_iload hx hb (eX4_stageMoment (67, .iload 5, 2) (List.mem_of_getElem? (i := 39) rfl)) (lv_at hl6 0 rfl) ?_
      refine ff_i2l hx hb (eX4_stageMoment (69, .i2l, 1) (List.mem_of_getElem? (i := 40) rfl)) (fun v38 e38 => ?_)
      refine lv_ladd hx hb (eX4_stageMoment (70, .ladd, 1) (List.mem_of_getElem? (i := 41) rfl)) ?_
      generalize v37 + v38 = v39
      refine lv_aload_n hx hb (eX4_stageMoment (71, .aload_n 0, 1) (List.mem_of_getElem? (i := 42) rfl)) rfl (lv_at hl6 1 rfl) ?_
      refine tz_get (r := 3) (k := 3) (t := (18, 0, 0)) hx hb hh35 hfr rfl rfl (hcl3 21 3 (18, 0, 0) (by decide) rfl).1 jfr35.2.2.2.1 (eX4_stageMoment (72, .getfield 21, 3) (List.mem_of_getElem? (i := 43) rfl)) ?_
      refine tz_rowV (As := []) (st := [.long v39]) (b := tm) (C := RX8) (Ts := gT) hx hb hml hown h2 (fun _ h => h) (ty_I (J := fun _ => True) (vs := [.ref tm]) (ms := []) (mX8_offsetTold l D cA ro sz H0) (ty_pre ⟨Or.inr ⟨_, rfl, htm⟩, trivial⟩ rfl rfl) rfl rfl) ⟨rfl, rfl⟩ ⟨by decide, by decide⟩ ⟨by decide, by decide⟩ (tb_5 65 rfl rfl) (tb_1 9 rfl rfl) (tb_5 90 rfl rfl) (tb_5 63 rfl rfl) (tb_5 64 rfl rfl) (show yX8_offsetTold.cls ≠ "java/lang/invoke/MethodHandle" ∧ yX8_offsetTold.cls ≠ "java/lang/invoke/VarHandle" ∧ (parseMethodDescriptor yX8_offsetTold.desc).map (fun d => d.parameters.length) = some 0 by decide +kernel) zs_blind (zs_ob hh35 htm (show RTg[7]? = some (0, 7, 0, fsX8) from rfl) (zCX8 hKn.1)) (fun U hU hW => ⟨rfl, by rw [hU]; exact hh35.l0, zKb s U hW.alike hKn, by rw [hU]; exact trivial⟩) hh35.2.2.1 hl6.1 (Nat.le_of_ble_eq_true rfl) (eX4_stageMoment (75, .invokevirtual 139, 3) (List.mem_of_getElem? (i := 44) rfl)) (fun r40 s40 t40 lo40 g40 f40 l40 => ?_)
      obtain ⟨v40, q40, z40, c40⟩ := f40
      cases q40
      rw [g40] at c40
      have hh40 : zh_ok D cA RTg ro sz H0 t40.heap lo40 := ⟨z40.1, z40.2.1, l40, z40.2.2.2⟩
      have kp40 := kp35.trans (c40.mono (ms' := rdMq) (by decide))
      have jfr40 := jfr35.kept hfr c40 (by decide)
      have ju40 := ju35.kept htx c40 (by decide)
      have jdt40 := jdt35.kept hdt rfl (by decide) c40 (by decide)
      have jtm40 := jtm35.kept htm rfl (by decide) c40 (by decide)
      have jlp40 := jlp35.kept hlp c40 (by decide) (by decide) (by decide)
      refine W.eq (g2 := F0 m 78 ls6 [.int v40, .long v39]) rfl ?_
      refine ff_i2l hx hb (eX4_stageMoment (78, .i2l, 1) (List.mem_of_getElem? (i := 45) rfl)) (fun v41 e41 => ?_)
      refine lv_lsub hx hb (eX4_stageMoment (79, .lsub, 1) (List.mem_of_getElem? (i := 46) rfl)) ?_
      generalize v39 - v41 = v42
      refine lv_lstore hx hb (eX4_stageMoment (80, .lstore 6, 2) (List.mem_of_getElem? (i := 47) rfl)) hl6 (by decide) rfl (fun ls43 hl43 => ?_)
      refine lv_aload_n hx hb (eX4_stageMoment (82, .aload_n 0, 1) (List.mem_of_getElem? (i := 48) rfl)) rfl (lv_at hl43 2 rfl) ?_
      refine tz_get (r := 3) (k := 3) (t := (18, 0, 0)) hx hb hh40 hfr rfl rfl (hcl3 21 3 (18, 0, 0) (by decide) rfl).1 jfr40.2.2.2.1 (eX4_stageMoment (83, .getfield 21, 3) (List.mem_of_getElem? (i := 49) rfl)) ?_
      obtain ⟨v44, fa44, e44⟩ := jtm40 8 (by decide)
      refine tz_get (r := 7) (k := 8) (t := (0, (-2147483648), 2147483647)) hx hb hh40 htm rfl rfl (hcl7 142 8 (0, (-2147483648), 2147483647) (by decide) rfl).1 fa44 (eX4_stageMoment (86, .getfield 142, 3) (List.mem_of_getElem? (i := 50) rfl)) ?_
      refine ff_if_lt hx hb (eX4_stageMoment (89, .ifCond .lt 34, 3) (List.mem_of_getElem? (i := 51) rfl)) (tgt := 123) rfl (fun c45 => ?_) (fun c45 => ?_)
      · skip
        have hfin : (x.1, x.2.1, stpF L day x.2.1 x.2.2) = (x4.1, x4.2.1, x4.2.2) := by first | (simp only [stpF, hx4, if_neg hnn, up_eq]; done) | (simp only [stpF, hx4, if_neg hnn, up_eq] <;> rfl) | rfl
        exact W.vret hx hb hr (fun t ht hW => ⟨rfl, by rw [ht]; exact hh40.l0, by rw [ht]; exact kp40, by rw [ht]; first | (rw [hfin]; exact ⟨jfr40, ju40, jdt40, jtm40, jlp40⟩) | exact ⟨jfr40, ju40, jdt40, jtm40, jlp40⟩⟩) hh40.2.2.1 (eX4_stageMoment (123, .return_, 1) (List.mem_of_getElem? (i := 66) rfl))
      · skip
        refine lv_lload hx hb (eX4_stageMoment (92, .lload 6, 2) (List.mem_of_getElem? (i := 52) rfl)) (lv_at hl43 0 rfl) ?_
        refine zu_S (vs := [.long v42]) (rest := []) hx hb hml hown hts0 zu_BT (hX2_holdsMinute l v42) ⟨rfl, rfl⟩ ⟨by decide, by decide⟩ ⟨by decide, by decide⟩ (tb_3 108 rfl rfl) (tb_1 13 rfl rfl) (tb_5 95 rfl rfl) (tb_3 107 rfl rfl) (show yX2_holdsMinute.cls ≠ "java/lang/invoke/MethodHandle" ∧ yX2_holdsMinute.cls ≠ "java/lang/invoke/VarHandle" ∧ (parseMethodDescriptor yX2_holdsMinute.desc).map (fun d => d.parameters.length) = some 1 by decide +kernel) rfl (fun _ _ _ => trivial) hl43.1 (Nat.le_of_ble_eq_true rfl) (eX4_stageMoment (94, .invokestatic 145, 3) (List.mem_of_getElem? (i := 53) rfl)) (fun w46 f46 => ?_)
        obtain ⟨v46, rfl, e46⟩ := f46
        refine ff_if_eq hx hb (eX4_stageMoment (97, .ifCond .eq 26, 3) (List.mem_of_getElem? (i := 54) rfl)) (tgt := 123) rfl (fun c47 => ?_) (fun c47 => ?_)
        · skip
          have hfin : (x.1, x.2.1, stpF L day x.2.1 x.2.2) = (x4.1, x4.2.1, x4.2.2) := by first | (simp only [stpF, hx4, if_neg hnn, up_eq]; done) | (simp only [stpF, hx4, if_neg hnn, up_eq] <;> rfl) | rfl
          exact W.vret hx hb hr (fun t ht hW => ⟨rfl, by rw [ht]; exact hh40.l0, by rw [ht]; exact kp40, by rw [ht]; first | (rw [hfin]; exact ⟨jfr40, ju40, jdt40, jtm40, jlp40⟩) | exact ⟨jfr40, ju40, jdt40, jtm40, jlp40⟩⟩) hh40.2.2.1 (eX4_stageMoment (123, .return_, 1) (List.mem_of_getElem? (i := 66) rfl))
        · skip
          refine lv_aload_n hx hb (eX4_stageMoment (100, .aload_n 0, 1) (List.mem_of_getElem? (i := 55) rfl)) rfl (lv_at hl43 2 rfl) ?_
          refine lv_iload_n hx hb (eX4_stageMoment (101, .iload_n 1, 1) (List.mem_of_getElem? (i := 56) rfl)) rfl (lv_at hl43 3 rfl) ?_
          refine ff_bipush hx hb (eX4_stageMoment (102, .bipush 8, 2) (List.mem_of_getElem? (i := 57) rfl)) (by decide) (by decide) (fun v48 e48 => ?_)
          refine lv_aload_n hx hb (eX4_stageMoment (104, .aload_n 0, 1) (List.mem_of_getElem? (i := 58) rfl)) rfl (lv_at hl43 2 rfl) ?_
          refine tz_get (r := 3) (k := 1) (t := (12, 0, 0)) hx hb hh40 hfr rfl rfl (hcl3 40 1 (12, 0, 0) (by decide) rfl).1 jfr40.2.1 (eX4_stageMoment (105, .getfield 40, 3) (List.mem_of_getElem? (i := 59) rfl)) ?_
          refine lv_lload hx hb (eX4_stageMoment (108, .lload 6, 2) (List.mem_of_getElem? (i := 60) rfl)) (lv_at hl43 0 rfl) ?_
          refine lv_aload_n hx hb (eX4_stageMoment (110, .aload_n 0, 1) (List.mem_of_getElem? (i := 61) rfl)) rfl (lv_at hl43 2 rfl) ?_
          refine tz_get (r := 3) (k := 3) (t := (18, 0, 0)) hx hb hh40 hfr rfl rfl (hcl3 21 3 (18, 0, 0) (by decide) rfl).1 jfr40.2.2.2.1 (eX4_stageMoment (111, .getfield 21, 3) (List.mem_of_getElem? (i := 62) rfl)) ?_
          refine tz_rowV (As := []) (st := [.long v42, .ref lp, .int v48, .int pa, .ref fr]) (b := tm) (C := RX8) (Ts := gT) hx hb hml hown h2 (fun _ h => h) (ty_I (J := fun _ => True) (vs := [.ref tm]) (ms := []) (mX8_secondOfMinute l D cA ro sz H0) (ty_pre ⟨Or.inr ⟨_, rfl, htm⟩, trivial⟩ rfl rfl) rfl rfl) ⟨rfl, rfl⟩ ⟨by decide, by decide⟩ ⟨by decide, by decide⟩ (tb_5 87 rfl rfl) (tb_1 9 rfl rfl) (tb_5 84 rfl rfl) (tb_5 85 rfl rfl) (tb_5 86 rfl rfl) (show yX8_secondOfMinute.cls ≠ "java/lang/invoke/MethodHandle" ∧ yX8_secondOfMinute.cls ≠ "java/lang/invoke/VarHandle" ∧ (parseMethodDescriptor yX8_secondOfMinute.desc).map (fun d => d.parameters.length) = some 0 by decide +kernel) zs_blind (zs_ob hh40 htm (show RTg[7]? = some (0, 7, 0, fsX8) from rfl) (zCX8 hKn.1)) (fun U hU hW => ⟨rfl, by rw [hU]; exact hh40.l0, zKb s U hW.alike hKn, by rw [hU]; exact trivial⟩) hh40.2.2.1 hl43.1 (Nat.le_of_ble_eq_true rfl) (eX4_stageMoment (114, .invokevirtual 151, 3) (List.mem_of_getElem? (i := 63) rfl)) (fun r49 s49 t49 lo49 g49 f49 l49 => ?_)
          obtain ⟨v49, q49, z49, c49⟩ := f49
          cases q49
          rw [g49] at c49
          have hh49 : zh_ok D cA RTg ro sz H0 t49.heap lo49 := ⟨z49.1, z49.2.1, l49, z49.2.2.2⟩
          have kp49 := kp40.trans (c49.mono (ms' := rdMq) (by decide))
          have jfr49 := jfr40.kept hfr c49 (by decide)
          have ju49 := ju40.kept htx c49 (by decide)
          have jdt49 := jdt40.kept hdt rfl (by decide) c49 (by decide)
          have jtm49 := jtm40.kept htm rfl (by decide) c49 (by decide)
          have jlp49 := jlp40.kept hlp c49 (by decide) (by decide) (by decide)
          refine W.eq (g2 := F0 m 117 ls43 [.int v49, .long v42, .ref lp, .int v48, .int pa, .ref fr]) rfl ?_
          refine tz_rowV (As := [.long v42, .int v49]) (st := [.int v48, .int pa, .ref fr]) (b := lp) (C := RX5) (Ts := gT) hx hb hml hown h2 (fun _ h => h) (ty_L (J := fun _ => True) (vs := [.ref lp, .long v42, .int v49]) (ms := []) (mX5_instantOf l D cA ro sz H0) (ty_pre ⟨Or.inr ⟨_, rfl, hlp⟩, ty_l _, ty_i _, trivial⟩ rfl rfl) rfl rfl) ⟨rfl, rfl⟩ ⟨by decide, by decide⟩ ⟨by decide, by decide⟩ (tb_3 123 rfl rfl) (tb_1 2 rfl rfl) (tb_5 96 rfl rfl) (tb_3 121 rfl rfl) (tb_3 122 rfl rfl) (show yX5_instantOf.cls ≠ "java/lang/invoke/MethodHandle" ∧ yX5_instantOf.cls ≠ "java/lang/invoke/VarHandle" ∧ (parseMethodDescriptor yX5_instantOf.desc).map (fun d => d.parameters.length) = some 2 by decide +kernel) zs_blind (zs_ob hh49 hlp (show RTg[4]? = some (0, 4, 0, fsX5) from rfl) (zCX5 hKn.1)) (fun U hU hW => ⟨rfl, by rw [hU]; exact hh49.l0, zKb s U hW.alike hKn, by rw [hU]; exact trivial⟩) hh49.2.2.1 hl43.1 (Nat.le_of_ble_eq_true rfl) (eX4_stageMoment (117, .invokevirtual 154, 3) (List.mem_of_getElem? (i := 64) rfl)) (fun r50 s50 t50 lo50 g50 f50 l50 => ?_)
          obtain ⟨v50, q50, z50, c50⟩ := f50
          cases q50
          rw [g50] at c50
          have hh50 : zh_ok D cA RTg ro sz H0 t50.heap lo50 := ⟨z50.1, z50.2.1, l50, z50.2.2.2⟩
          have kp50 := kp49.trans (c50.mono (ms' := rdMq) (by decide))
          have jfr50 := jfr49.kept hfr c50 (by decide)
          have ju50 := ju49.kept htx c50 (by decide)
          have jdt50 := jdt49.kept hdt rfl (by decide) c50 (by decide)
          have jtm50 := jtm49.kept htm rfl (by decide) c50 (by decide)
          have jlp50 := jlp49.kept hlp c50 (by decide) (by decide) (by decide)
          refine W.eq (g2 := F0 m 120 ls43 [.long v50, .int v48, .int pa, .ref fr]) rfl ?_
          refine tz_rowV (As := [.int pa, .int v48, .long v50]) (st := []) (b := fr) (C := RX4) (Ts := gT) hx hb hml hown h2 (fun _ h => h) (ty_V (J := fun _ => True) (vs := [.ref fr, .int pa, .int v48, .long v50]) (ms := [(17, 0)]) (mX4_put l D cA ro sz H0) (ty_pre ⟨Or.inr ⟨_, rfl, hfr⟩, ty_i _, ty_i _, ty_l _, trivial⟩ rfl rfl) rfl rfl) ⟨rfl, rfl⟩ ⟨by decide, by decide⟩ ⟨by decide, by decide⟩ (tb_5 82 rfl rfl) (tb_1 7 rfl rfl) (tb_5 79 rfl rfl) (tb_5 80 rfl rfl) (tb_5 81 rfl rfl) (show yX4_put.cls ≠ "java/lang/invoke/MethodHandle" ∧ yX4_put.cls ≠ "java/lang/invoke/VarHandle" ∧ (parseMethodDescriptor yX4_put.desc).map (fun d => d.parameters.length) = some 3 by decide +kernel) zs_blind (zs_ob hh50 hfr (show RTg[3]? = some (0, 3, 0, fsX4) from rfl) (zCX4 hKn.1)) (fun U hU hW => ⟨rfl, by rw [hU]; exact hh50.l0, zKb s U hW.alike hKn, by rw [hU]; exact trivial⟩) hh50.2.2.1 hl43.1 (Nat.le_of_ble_eq_true rfl) (eX4_stageMoment (120, .invokevirtual 82, 3) (List.mem_of_getElem? (i := 65) rfl)) (fun r51 s51 t51 lo51 g51 f51 l51 => ?_)
          obtain ⟨q51, z51, c51⟩ := f51
          cases q51
          rw [g51] at c51
          have hh51 : zh_ok D cA RTg ro sz H0 t51.heap lo51 := ⟨z51.1, z51.2.1, l51, z51.2.2.2⟩
          have kp51 := kp50.trans (c51.mono (ms' := rdMq) (by decide))
          have jfr51 := jfr50.kept hfr c51 (by decide)
          have ju51 := ju50.kept htx c51 (by decide)
          have jdt51 := jdt50.kept hdt rfl (by decide) c51 (by decide)
          have jtm51 := jtm50.kept htm rfl (by decide) c51 (by decide)
          have jlp51 := jlp50.kept hlp c51 (by decide) (by decide) (by decide)
          refine W.eq (g2 := F0 m 123 ls43 []) rfl ?_
          have hfin : (x.1, x.2.1, stpF L day x.2.1 x.2.2) = (x4.1, x4.2.1, x4.2.2) := by first | (simp only [stpF, hx4, if_neg hnn, up_eq]; done) | (simp only [stpF, hx4, if_neg hnn, up_eq] <;> rfl) | rfl
          exact W.vret hx hb hr (fun t ht hW => ⟨rfl, by rw [ht]; exact hh51.l0, by rw [ht]; exact kp51, by rw [ht]; first | (rw [hfin]; exact ⟨jfr51, ju51, jdt51, jtm51, jlp51⟩) | exact ⟨jfr51, ju51, jdt51, jtm51, jlp51⟩⟩) hh51.2.2.1 (eX4_stageMoment (123, .return_, 1) (List.mem_of_getElem? (i := 66) rfl))
  · have hnn : day = NONEI := by unfold NONEI; omega
    have hfin : (x.1, x.2.1, stpF L day x.2.1 x.2.2) = (x.1, x.2.1, x.2.2) := by first | (simp only [stpF, if_pos hnn, up_eq]; done) | (simp only [stpF, if_pos hnn, up_eq] <;> rfl) | rfl
    exact W.vret hx hb hr (fun t ht hW => ⟨rfl, by rw [ht]; exact hh.l0, by rw [ht]; exact kp0, by rw [ht]; first | (rw [hfin]; exact ⟨jfr0, ju0, jdt0, jtm0, jlp0⟩) | exact ⟨jfr0, ju0, jdt0, jtm0, jlp0⟩⟩) hh.2.2.1 (eX4_stageMoment (8, .return_, 1) (List.mem_of_getElem? (i := 4) rfl))
theorem y_in9 {y : Int} (h1 : -999999 ≤ y) (h2 : y ≤ 999999) : -365961662 ≤ ysI y ∧ ysI y + 365 + lpI y ≤ 364522972 := by
  have a := ys_mono h1
  have c := ys_mono (show y + 1 ≤ 1000000 by omega)
  have d := ys_succ y
  have e1 : ysI (-999999) = -365961662 := by decide
  have e2 : ysI 1000000 = 364522972 := by decide
  omega
theorem nm_bd {T : List Int} {n : Nat} {s : uS} {li : Int} {M : Int} (h : (10 : Int) ^ n - 1 = M) : 0 ≤ (nbF T li n 0 0 s).1 ∧ (nbF T li n 0 0 s).1 ≤ M := by
  have := nbF_up (T := T) (ld := li) n (i := 0) (v := 0) (s := s) (M := 0) (by decide) (by decide)
  omega
theorem yr_db {T : List Int} {x : fS} : ((yrF T x).1 4 = 0 ∨ (yrF T x).1 4 = 1) ∧ (0 ≤ (yrF T x).1 5 ∧ (yrF T x).1 5 ≤ 999999) := by
  have k : (tkF T 45 x.2).1 = 0 ∨ (tkF T 45 x.2).1 = 1 := by rcases tkF_01 T 45 x.2 with g | g; exact Or.inr g; exact Or.inl g.1
  have b6 : ∀ s : uS, 0 ≤ (nbF T 6 6 0 0 s).1 ∧ (nbF T 6 6 0 0 s).1 ≤ 999999 := fun s => nm_bd (by decide)
  have b4 : ∀ s : uS, 0 ≤ (nbF T 4 4 0 0 s).1 ∧ (nbF T 4 4 0 0 s).1 ≤ 999999 := fun s => by have := nm_bd (T := T) (n := 4) (li := 4) (s := s) (M := 9999) (by decide); omega
  unfold yrF
  split
  · simp [upF]; exact ⟨k, b6 _⟩
  · split
    · simp [upF]; exact ⟨k, b6 _⟩
    · simp [upF]; exact ⟨k, b4 _⟩
/-- fields that a scan of a date leaves -/
def k45 (f f' : fN) : Prop := f' 4 = f 4 ∧ f' 5 = f 5 ∧ f' 1 = f 1
theorem be_45 {T : List Int} {wh : Int} {x : fS} : k45 x.1 (beF T wh x).1 := by
  have e : ∀ (kd : Int) (y : fS), k45 y.1 (enF kd wh y).1 := fun kd y => by unfold enF k45; simp [upF]
  have w : ∀ y : fS, k45 y.1 (wkF T wh y).1 := fun y => by
    unfold wkF k45 laF enF nmF
    split
    · split <;> simp [upF]
    · split <;> simp [upF]
  have d : ∀ y : fS, k45 y.1 (daF T wh y).1 := fun y => by
    unfold daF k45 laF enF nmF
    split
    · simp [upF]
    · split <;> simp [upF]
  have q : ∀ y : fS, k45 y.1 (plF9 T y).1 := fun y => by
    unfold plF9 k45
    split <;> simp [upF]
  unfold beF
  split
  · split
    · exact w _
    · split
      · exact d _
      · split
        · exact q _
        · exact e _ _
  · exact e _ _
theorem dt_db (T : List Int) (wh : Int) (x : fS) : DB (dtF T wh x).1 := by
  have y := yr_db (T := T) (x := (upF (upF x.1 7 1) 9 1, x.2))
  have k := be_45 (T := T) (wh := wh) (x := (upF (yrF T (upF (upF x.1 7 1) 9 1, x.2)).1 1 (tkF T 45 (yrF T (upF (upF x.1 7 1) 9 1, x.2)).2).1, (tkF T 45 (yrF T (upF (upF x.1 7 1) 9 1, x.2)).2).2))
  obtain ⟨k1, k2, k3⟩ := k
  unfold DB dtF
  rw [k1, k2, k3]
  dsimp only
  rw [up_ne (show (4 : Nat) ≠ 1 by decide), up_ne (show (5 : Nat) ≠ 1 by decide), up_eq]
  refine ⟨y.1, ?_, y.2⟩
  rcases tkF_01 T 45 (yrF T (upF (upF x.1 7 1) 9 1, x.2)).2 with g | g
  · exact Or.inr g
  · exact Or.inl g.1
theorem df_db (T : List Int) (x : fS) : ((dfF T x).1 4 = 0 ∨ (dfF T x).1 4 = 1) ∧ (0 ≤ (dfF T x).1 5 ∧ (dfF T x).1 5 ≤ 999999) := by
  have b := nm_bd (T := T) (n := 4) (li := 4) (s := x.2) (M := 9999) (by decide)
  unfold dfF nmF
  simp [upF]
  omega
/-- a time's numbers -/
def TB0 (f : fN) : Prop := TB f
theorem TB.up {f : fN} {k : Nat} {v : Int} (h : TB f) (hk : ¬ (k = 1 ∨ k = 3 ∨ k = 9 ∨ k = 11 ∨ k = 13)) : TB (upF f k v) := by
  unfold TB at *
  rw [up_ne (show (1 : Nat) ≠ k by omega), up_ne (show (3 : Nat) ≠ k by omega), up_ne (show (9 : Nat) ≠ k by omega), up_ne (show (11 : Nat) ≠ k by omega), up_ne (show (13 : Nat) ≠ k by omega)]
  exact h
theorem ts_tb {T : List Int} {x : fS} : TB (tsF T x).1 := by
  have b := nm_bd (T := T) (n := 2) (li := 2) (s := x.2) (M := 99) (by decide)
  unfold tsF nmF TB
  simp [upF]
  exact b
theorem mi_tb {T : List Int} {x : fS} (h : TB x.1) : TB (miF T x).1 := by
  have b := nm_bd (T := T) (n := 2) (li := 2) (s := x.2) (M := 99) (by decide)
  unfold TB at h
  unfold miF nmF TB
  simp [upF]
  exact ⟨⟨h.1.1, b, h.1.2.2⟩, h.2⟩
theorem sc_tb {T : List Int} {x : fS} (h : TB x.1) : TB (scF9 T x).1 := by
  unfold scF9 nmF
  exact ((h.up (by decide)).up (by decide)).up (by decide)
theorem oh_tb {T : List Int} {x : fS} (h : TB x.1) : TB (ohF T x).1 := by
  have b := nm_bd (T := T) (n := 2) (li := 2) (s := (x.2.1 + 1, x.2.2)) (M := 99) (by decide)
  unfold TB at h
  unfold ohF nmF TB
  simp [upF]
  refine ⟨⟨h.1.1, h.1.2.1, b, h.1.2.2.2⟩, ?_⟩
  by_cases q : lk T x.2 = 45
  · exact Or.inr q
  · exact Or.inl q
theorem om_tb {T : List Int} {x : fS} (h : TB x.1) : TB (omF T x).1 := by
  have b := nm_bd (T := T) (n := 2) (li := 2) (s := x.2) (M := 99) (by decide)
  unfold TB at h
  unfold omF nmF TB
  simp [upF]
  exact ⟨⟨h.1.1, h.1.2.1, h.1.2.2.1, b⟩, h.2⟩
theorem ms_tb {T : List Int} {mk : Int} {x : fS} (h : TB x.1) : TB (msF T mk x).2.1 := by
  have a : ∀ y : fS, TB y.1 → TB (ms3F T mk y).2.1 := fun y hy => by
    unfold ms3F
    split
    · show TB (ms2F T y).1
      unfold ms2F
      split
      · exact sc_tb (x := ((miF T y).1, (miF T y).2)) (mi_tb hy)
      · exact mi_tb hy
    · exact hy
  unfold msF
  split
  · exact a x h
  · split
    · show TB (ms1F T (x.1, (tkF T 58 x.2).2)).1
      unfold ms1F
      split
      · exact sc_tb (x := ((miF T (x.1, (tkF T 58 x.2).2)).1, _)) (mi_tb (x := (x.1, _)) h)
      · exact mi_tb (x := (x.1, (tkF T 58 x.2).2)) h
    · exact a (x.1, (tkF T 58 x.2).2) h
theorem pa_tb {T : List Int} {x : fS} (h : TB x.1) : TB (paF T x).1 ∧ TB (pdF T x).1 := by
  have a : ∀ s : uS, TB (pa1F T (x.1, s)).1 := fun s => h.up (by decide)
  constructor
  · unfold paF
    split
    · exact a _
    · split
      · exact a _
      · exact h
  · unfold pdF
    split
    · exact a _
    · exact h
theorem of_tb {T : List Int} {fd : Int} {x : fS} (h : TB x.1) : TB (ofF9 T fd x).1 := by
  have a : ∀ y : fS, TB y.1 → TB (of3F T fd y).1 := fun y hy => by
    unfold of3F
    split
    · exact om_tb (x := (y.1, y.2)) hy
    · exact hy
  have b : ∀ y : fS, TB y.1 → TB (of2F T fd y).1 := fun y hy => by
    unfold of2F
    split
    · exact a y hy
    · split
      · exact om_tb (x := (y.1, _)) hy
      · exact a (y.1, _) hy
  unfold ofF9
  split
  · exact h.up (by decide)
  · split
    · exact b _ (oh_tb (x := (x.1, _)) h)
    · exact h
theorem oz_tb {T : List Int} {x : fS} (h : TB x.1) : TB (ozF T x).1 := by
  unfold ozF
  split
  · exact h.up (by decide)
  · split
    · exact h.up (by decide)
    · split
      · exact om_tb (x := (_, _)) (oh_tb (x := (x.1, _)) h)
      · exact h
theorem tm_tb (T : List Int) (mk : Int) (x : fS) : TB (tmF9 T mk x).1 := of_tb (pa_tb (ms_tb (x := (upF (tsF T x).1 7 3600, (tsF T x).2)) (ts_tb.up (by decide)))).1
theorem tf_tb (T : List Int) (x : fS) : TB (tfF T x).1 := by
  have h1 : TB (tsF T x).1 := ts_tb
  have h2 : TB (miF T ((tsF T x).1, ndF T 58 (tsF T x).2)).1 := mi_tb (x := ((tsF T x).1, ndF T 58 (tsF T x).2)) h1
  unfold tfF tf2F
  generalize miF T ((tsF T x).1, ndF T 58 (tsF T x).2) = y at h2 ⊢
  have h3 : TB (scF9 T (y.1, ndF T 58 y.2)).1 := sc_tb (x := (y.1, ndF T 58 y.2)) h2
  generalize scF9 T (y.1, ndF T 58 y.2) = z at h3 ⊢
  exact oz_tb (pa_tb (T := T) (x := z) h3).2
theorem dq_in {f : fN} {s : uS} (h : s.2.1 = 0 → (f 4 = 0 ∨ f 4 = 1) ∧ 0 ≤ f 5 ∧ f 5 ≤ 999999) : (dqF f s).1 ≠ NONEI → -365961662 ≤ (dqF f s).1 ∧ (dqF f s).1 ≤ 364522971 := by
  intro hn
  have nn : ∀ (p : uS), ((NONEI, p) : Int × uS).1 = NONEI := fun _ => rfl
  unfold dqF at hn ⊢
  by_cases g : s.2.1 = 0 ∧ s.2.2 < 0
  · rw [if_pos g] at hn ⊢
    have hb := h g.1
    have ty := tl_b9 hb.1 hb.2
    have tin := y_in9 ty.1 ty.2
    by_cases z : f 4 = 1 ∧ f 5 = 0
    · rw [if_pos z] at hn; exact absurd rfl hn
    · rw [if_neg z] at hn ⊢
      by_cases w : f 0 = 1 ∨ f 0 = 5
      · rw [if_pos w] at hn ⊢
        unfold dwF at hn ⊢
        split at hn
        · exact absurd rfl hn
        · rename_i w1
          rw [if_neg w1]
          split at hn
          · exact absurd rfl hn
          · rename_i w2
            rw [if_neg w2]
            split at hn
            · rename_i w3; rw [if_pos w3]; exact w3
            · exact absurd rfl hn
      · rw [if_neg w] at hn ⊢
        by_cases o : f 0 = 2
        · rw [if_pos o] at hn ⊢
          split at hn
          · rename_i o1; rw [if_pos o1]; dsimp only; omega
          · exact absurd rfl hn
        · rw [if_neg o] at hn ⊢
          split at hn
          · exact absurd rfl hn
          · rename_i m1
            rw [if_neg m1]
            split at hn
            · rename_i d1
              rw [if_pos d1]
              have c := cu_lo (y := tlF f) (m := f 7) (by omega) (by omega)
              dsimp only
              rw [nu_cu]
              omega
            · exact absurd rfl hn
  · rw [if_neg g] at hn
    exact absurd rfl hn
set_option maxRecDepth 100000 in
set_option maxHeartbeats 4000000 in
theorem hX4_scanDate (l : Launch) (D : va_G) (cA : Nat → ClassId) (ro : Nat → Option Nat) (sz : Nat) (H0 : Heap) (fr : Nat)  (tx lp dt tm du : Nat) (T L : List Int) (x : mS) (hfr : ro fr = some 3) (htx : ro tx = some 0) (hlp : ro lp = some 4) (hdt : ro dt = some 1) (htm : ro tm = some 7) (hdu : ro du = some 2) : Met l yX4_scanDate (gW yX4_scanDate cX4_scanDate 1 none) { frames := 4, cells := 0, slots := 0, locals := 92 } (zs_PC D cA ro sz H0 (fun H => jRw D cA ro H fr tx lp dt tm du T L x) [.ref fr]) (rd_V D cA ro sz H0 fr tx lp dt tm du T L (dqqF T x)) 0 0 (zy_fr sz) := by
  refine zy_ofW (cc := cX4_scanDate) (maxL := 1) (ret := none) (by decide +kernel) rfl ?_
  intro p e s m args below meth c s1 B hml hv
  obtain ⟨rfl, hh, ⟨hKn, hBQ, hLQ⟩, hJ⟩ := hv
  have hx := B.exec
  have hb := B.bytes
  have hr := B.returns
  have hlk := B.notSynchronized
  have hts0 := atoms_spec (ws := gW yX4_scanDate cX4_scanDate 1 none) B.pre
  have h2 : ∀ w ∈ gT, w.before ([.ref fr] : List Value).toArray s = true := fun w hw => hts0 w (List.mem_cons_of_mem _ hw)
  have hown : s.vm.findClass RX4 = some m.cls := findClass_of_methodNamed B.named
  have hl := lv_entry [.ref fr] (n := 1) (Nat.le_of_ble_eq_true rfl)
  rw [lg_entry_eq]
  generalize (lg_sl [.ref fr] ++ List.replicate (1 - (lg_sl [.ref fr]).length) Slot.unset).toArray = ls at hl ⊢
  have hD := zD_all h2 hKn.1
  have hcl3 := fun (idx k : Nat) (t : zt_T) (h : (idx, 3, k) ∈ gfX4) (hk : fsX4[k]? = some t) => zf_clause (ro := ro) (ms := rdMq) h2 hown hKn.1 gfX4_ok (by decide +kernel) idx 3 k 3 0 fsX4 t h rfl hk
  have hcl0 := fun (idx k : Nat) (t : zt_T) (h : (idx, 0, k) ∈ gfX4) (hk : fsX0[k]? = some t) => zf_clause (ro := ro) (ms := rdMq) h2 hown hKn.1 gfX4_ok (by decide +kernel) idx 0 k 0 0 fsX0 t h rfl hk
  have hcl1 := fun (idx k : Nat) (t : zt_T) (h : (idx, 1, k) ∈ gfX4) (hk : fsX1[k]? = some t) => zf_clause (ro := ro) (ms := rdMq) h2 hown hKn.1 gfX4_ok (by decide +kernel) idx 1 k 1 0 fsX1 t h rfl hk
  have hcl7 := fun (idx k : Nat) (t : zt_T) (h : (idx, 7, k) ∈ gfX4) (hk : fsX8[k]? = some t) => zf_clause (ro := ro) (ms := rdMq) h2 hown hKn.1 gfX4_ok (by decide +kernel) idx 7 k 7 0 fsX8 t h rfl hk
  have hcl2 := fun (idx k : Nat) (t : zt_T) (h : (idx, 2, k) ∈ gfX4) (hk : fsX3[k]? = some t) => zf_clause (ro := ro) (ms := rdMq) h2 hown hKn.1 gfX4_ok (by decide +kernel) idx 2 k 2 0 fsX3 t h rfl hk
  have kp0 : zc_kept D RTg ro rdMq s.heap s.heap := zc_kept.refl
  obtain ⟨jfr0, ju0, jdt0, jtm0, jlp0⟩ := hJ
  have hu := ju0.2.2
  unfold uOK at hu
  refine lv_aload_n hx hb (eX4_scanDate (0, .aload_n 0, 1) (List.mem_of_getElem? (i := 0) rfl)) rfl (lv_at hl 0 rfl) ?_
  refine tz_get (r := 3) (k := 2) (t := (6, 0, 0)) hx hb hh hfr rfl rfl (hcl3 12 2 (6, 0, 0) (by decide) rfl).1 jfr0.2.2.1 (eX4_scanDate (1, .getfield 12, 3) (List.mem_of_getElem? (i := 1) rfl)) ?_
  refine lv_aload_n hx hb (eX4_scanDate (4, .aload_n 0, 1) (List.mem_of_getElem? (i := 2) rfl)) rfl (lv_at hl 0 rfl) ?_
  refine tz_get (r := 3) (k := 0) (t := (4, 0, 0)) hx hb hh hfr rfl rfl (hcl3 36 0 (4, 0, 0) (by decide) rfl).1 jfr0.1 (eX4_scanDate (5, .getfield 36, 3) (List.mem_of_getElem? (i := 3) rfl)) ?_
  refine ff_iconst hx hb (eX4_scanDate (8, .iconst 0, 1) (List.mem_of_getElem? (i := 4) rfl)) (by decide) (by decide) (fun v1 e1 => ?_)
  refine tz_rowV (As := [.ref tx, .int v1]) (st := []) (b := dt) (C := RX1) (Ts := gT) hx hb hml hown h2 (fun _ h => h) (hX1_scan l D cA ro sz H0 dt tx v1 0 T (x.2.2) (x.1) hdt htx (by omega) (by decide)) ⟨rfl, rfl⟩ ⟨by decide, by decide⟩ ⟨by decide, by decide⟩ (tb_5 104 rfl rfl) (tb_1 8 rfl rfl) (tb_5 101 rfl rfl) (tb_5 102 rfl rfl) (tb_5 103 rfl rfl) (show yX1_scan.cls ≠ "java/lang/invoke/MethodHandle" ∧ yX1_scan.cls ≠ "java/lang/invoke/VarHandle" ∧ (parseMethodDescriptor yX1_scan.desc).map (fun d => d.parameters.length) = some 2 by decide +kernel) zs_blind (zs_ob hh hdt (show RTg[1]? = some (0, 1, 0, fsX1) from rfl) (zCX1 hKn.1)) (fun U hU hW => ⟨rfl, by rw [hU]; exact hh.l0, zKb s U hW.alike hKn, by rw [hU]; exact ⟨ju0, jdt0⟩⟩) hh.2.2.1 hl.1 (Nat.le_of_ble_eq_true rfl) (eX4_scanDate (9, .invokevirtual 78, 3) (List.mem_of_getElem? (i := 5) rfl)) (fun r2 s2 t2 lo2 g2 f2 l2 => ?_)
  obtain ⟨q2, z2, c2, ju2, jdt2, fx2⟩ := f2
  cases q2
  rw [g2] at c2 fx2
  have hh2 : zh_ok D cA RTg ro sz H0 t2.heap lo2 := ⟨z2.1, z2.2.1, l2, z2.2.2.2⟩
  have kp2 := kp0.trans (c2.mono (ms' := rdMq) (by decide))
  generalize hx2 : dtF T 0 (x.1, x.2.2) = x2 at ju2 jdt2
  have uu2 := ju2.2.2
  unfold uOK at uu2
  have jfr2 := jfr0.kept hfr c2 (by decide)
  have jtm2 := jtm0.kept htm rfl (by decide) c2 (by decide)
  have jlp2 := jlp0.kept hlp c2 (by decide) (by decide) (by decide)
  refine W.eq (g2 := F0 m 12 ls []) rfl ?_
  refine lv_aload_n hx hb (eX4_scanDate (12, .aload_n 0, 1) (List.mem_of_getElem? (i := 6) rfl)) rfl (lv_at hl 0 rfl) ?_
  refine ff_iconst hx hb (eX4_scanDate (13, .iconst 0, 1) (List.mem_of_getElem? (i := 7) rfl)) (by decide) (by decide) (fun v3 e3 => ?_)
  refine ff_iconst hx hb (eX4_scanDate (14, .iconst 0, 1) (List.mem_of_getElem? (i := 8) rfl)) (by decide) (by decide) (fun v4 e4 => ?_)
  refine ff_lconst hx hb (eX4_scanDate (15, .lconst 1, 1) (List.mem_of_getElem? (i := 9) rfl)) rfl (fun v5 e5 => ?_)
  refine tz_rowV (As := [.int v3, .int v4, .long v5]) (st := []) (b := fr) (C := RX4) (Ts := gT) hx hb hml hown h2 (fun _ h => h) (ty_V (J := fun _ => True) (vs := [.ref fr, .int v3, .int v4, .long v5]) (ms := [(17, 0)]) (mX4_put l D cA ro sz H0) (ty_pre ⟨Or.inr ⟨_, rfl, hfr⟩, ty_i _, ty_i _, ty_l _, trivial⟩ rfl rfl) rfl rfl) ⟨rfl, rfl⟩ ⟨by decide, by decide⟩ ⟨by decide, by decide⟩ (tb_5 82 rfl rfl) (tb_1 7 rfl rfl) (tb_5 79 rfl rfl) (tb_5 80 rfl rfl) (tb_5 81 rfl rfl) (show yX4_put.cls ≠ "java/lang/invoke/MethodHandle" ∧ yX4_put.cls ≠ "java/lang/invoke/VarHandle" ∧ (parseMethodDescriptor yX4_put.desc).map (fun d => d.parameters.length) = some 3 by decide +kernel) zs_blind (zs_ob hh2 hfr (show RTg[3]? = some (0, 3, 0, fsX4) from rfl) (zCX4 hKn.1)) (fun U hU hW => ⟨rfl, by rw [hU]; exact hh2.l0, zKb s U hW.alike hKn, by rw [hU]; exact trivial⟩) hh2.2.2.1 hl.1 (Nat.le_of_ble_eq_true rfl) (eX4_scanDate (16, .invokevirtual 82, 3) (List.mem_of_getElem? (i := 10) rfl)) (fun r6 s6 t6 lo6 g6 f6 l6 => ?_)
  obtain ⟨q6, z6, c6⟩ := f6
  cases q6
  rw [g6] at c6
  have hh6 : zh_ok D cA RTg ro sz H0 t6.heap lo6 := ⟨z6.1, z6.2.1, l6, z6.2.2.2⟩
  have kp6 := kp2.trans (c6.mono (ms' := rdMq) (by decide))
  have jfr6 := jfr2.kept hfr c6 (by decide)
  have ju6 := ju2.kept htx c6 (by decide)
  have jdt6 := jdt2.kept hdt rfl (by decide) c6 (by decide)
  have jtm6 := jtm2.kept htm rfl (by decide) c6 (by decide)
  have jlp6 := jlp2.kept hlp c6 (by decide) (by decide) (by decide)
  refine W.eq (g2 := F0 m 19 ls []) rfl ?_
  refine lv_aload_n hx hb (eX4_scanDate (19, .aload_n 0, 1) (List.mem_of_getElem? (i := 11) rfl)) rfl (lv_at hl 0 rfl) ?_
  refine ff_iconst hx hb (eX4_scanDate (20, .iconst 0, 1) (List.mem_of_getElem? (i := 12) rfl)) (by decide) (by decide) (fun v7 e7 => ?_)
  refine ff_iconst hx hb (eX4_scanDate (21, .iconst 1, 1) (List.mem_of_getElem? (i := 13) rfl)) (by decide) (by decide) (fun v8 e8 => ?_)
  refine lv_aload_n hx hb (eX4_scanDate (22, .aload_n 0, 1) (List.mem_of_getElem? (i := 14) rfl)) rfl (lv_at hl 0 rfl) ?_
  refine tz_get (r := 3) (k := 2) (t := (6, 0, 0)) hx hb hh6 hfr rfl rfl (hcl3 12 2 (6, 0, 0) (by decide) rfl).1 jfr6.2.2.1 (eX4_scanDate (23, .getfield 12, 3) (List.mem_of_getElem? (i := 15) rfl)) ?_
  obtain ⟨v9, fa9, e9⟩ := jdt6 0 (by decide)
  refine tz_get (r := 1) (k := 0) (t := (0, (-2147483648), 2147483647)) hx hb hh6 hdt rfl rfl (hcl1 85 0 (0, (-2147483648), 2147483647) (by decide) rfl).1 fa9 (eX4_scanDate (26, .getfield 85, 3) (List.mem_of_getElem? (i := 16) rfl)) ?_
  refine ff_i2l hx hb (eX4_scanDate (29, .i2l, 1) (List.mem_of_getElem? (i := 17) rfl)) (fun v10 e10 => ?_)
  refine tz_rowV (As := [.int v7, .int v8, .long v10]) (st := []) (b := fr) (C := RX4) (Ts := gT) hx hb hml hown h2 (fun _ h => h) (ty_V (J := fun _ => True) (vs := [.ref fr, .int v7, .int v8, .long v10]) (ms := [(17, 0)]) (mX4_put l D cA ro sz H0) (ty_pre ⟨Or.inr ⟨_, rfl, hfr⟩, ty_i _, ty_i _, ty_l _, trivial⟩ rfl rfl) rfl rfl) ⟨rfl, rfl⟩ ⟨by decide, by decide⟩ ⟨by decide, by decide⟩ (tb_5 82 rfl rfl) (tb_1 7 rfl rfl) (tb_5 79 rfl rfl) (tb_5 80 rfl rfl) (tb_5 81 rfl rfl) (show yX4_put.cls ≠ "java/lang/invoke/MethodHandle" ∧ yX4_put.cls ≠ "java/lang/invoke/VarHandle" ∧ (parseMethodDescriptor yX4_put.desc).map (fun d => d.parameters.length) = some 3 by decide +kernel) zs_blind (zs_ob hh6 hfr (show RTg[3]? = some (0, 3, 0, fsX4) from rfl) (zCX4 hKn.1)) (fun U hU hW => ⟨rfl, by rw [hU]; exact hh6.l0, zKb s U hW.alike hKn, by rw [hU]; exact trivial⟩) hh6.2.2.1 hl.1 (Nat.le_of_ble_eq_true rfl) (eX4_scanDate (30, .invokevirtual 82, 3) (List.mem_of_getElem? (i := 18) rfl)) (fun r11 s11 t11 lo11 g11 f11 l11 => ?_)
  obtain ⟨q11, z11, c11⟩ := f11
  cases q11
  rw [g11] at c11
  have hh11 : zh_ok D cA RTg ro sz H0 t11.heap lo11 := ⟨z11.1, z11.2.1, l11, z11.2.2.2⟩
  have kp11 := kp6.trans (c11.mono (ms' := rdMq) (by decide))
  have jfr11 := jfr6.kept hfr c11 (by decide)
  have ju11 := ju6.kept htx c11 (by decide)
  have jdt11 := jdt6.kept hdt rfl (by decide) c11 (by decide)
  have jtm11 := jtm6.kept htm rfl (by decide) c11 (by decide)
  have jlp11 := jlp6.kept hlp c11 (by decide) (by decide) (by decide)
  refine W.eq (g2 := F0 m 33 ls []) rfl ?_
  refine lv_aload_n hx hb (eX4_scanDate (33, .aload_n 0, 1) (List.mem_of_getElem? (i := 19) rfl)) rfl (lv_at hl 0 rfl) ?_
  refine ff_iconst hx hb (eX4_scanDate (34, .iconst 0, 1) (List.mem_of_getElem? (i := 20) rfl)) (by decide) (by decide) (fun v12 e12 => ?_)
  refine ff_iconst hx hb (eX4_scanDate (35, .iconst 2, 1) (List.mem_of_getElem? (i := 21) rfl)) (by decide) (by decide) (fun v13 e13 => ?_)
  refine lv_aload_n hx hb (eX4_scanDate (36, .aload_n 0, 1) (List.mem_of_getElem? (i := 22) rfl)) rfl (lv_at hl 0 rfl) ?_
  refine tz_get (r := 3) (k := 2) (t := (6, 0, 0)) hx hb hh11 hfr rfl rfl (hcl3 12 2 (6, 0, 0) (by decide) rfl).1 jfr11.2.2.1 (eX4_scanDate (37, .getfield 12, 3) (List.mem_of_getElem? (i := 23) rfl)) ?_
  refine lv_aload_n hx hb (eX4_scanDate (40, .aload_n 0, 1) (List.mem_of_getElem? (i := 24) rfl)) rfl (lv_at hl 0 rfl) ?_
  refine tz_get (r := 3) (k := 0) (t := (4, 0, 0)) hx hb hh11 hfr rfl rfl (hcl3 36 0 (4, 0, 0) (by decide) rfl).1 jfr11.1 (eX4_scanDate (41, .getfield 36, 3) (List.mem_of_getElem? (i := 25) rfl)) ?_
  refine tz_rowV (As := [.ref tx]) (st := [.int v13, .int v12, .ref fr]) (b := dt) (C := RX1) (Ts := gT) hx hb hml hown h2 (fun _ h => h) (hX1_settle l D cA ro sz H0 dt tx T (x2.2) (x2.1) hdt htx (by rw [← hx2]; exact (dt_db T 0 _).1) (fun _ => by rw [← hx2]; exact (dt_db T 0 _).2.2)) ⟨rfl, rfl⟩ ⟨by decide, by decide⟩ ⟨by decide, by decide⟩ (tb_5 28 rfl rfl) (tb_1 8 rfl rfl) (tb_5 25 rfl rfl) (tb_5 26 rfl rfl) (tb_5 27 rfl rfl) (show yX1_settle.cls ≠ "java/lang/invoke/MethodHandle" ∧ yX1_settle.cls ≠ "java/lang/invoke/VarHandle" ∧ (parseMethodDescriptor yX1_settle.desc).map (fun d => d.parameters.length) = some 1 by decide +kernel) zs_blindB (zs_ob hh11 hdt (show RTg[1]? = some (0, 1, 0, fsX1) from rfl) (zCX1 hKn.1)) (fun U hU hW => ⟨rfl, by rw [hU]; exact hh11.l0, ⟨zKb s U hW.alike hKn, hBQ.alike hW.alike⟩, by rw [hU]; exact ⟨ju11, jdt11⟩⟩) hh11.2.2.1 hl.1 (Nat.le_of_ble_eq_true rfl) (eX4_scanDate (44, .invokevirtual 70, 3) (List.mem_of_getElem? (i := 26) rfl)) (fun r14 s14 t14 lo14 g14 f14 l14 => ?_)
  obtain ⟨v14, q14, e14, z14, c14, ju14, fx14⟩ := f14
  cases q14
  rw [g14] at c14 fx14
  have hh14 : zh_ok D cA RTg ro sz H0 t14.heap lo14 := ⟨z14.1, z14.2.1, l14, z14.2.2.2⟩
  have kp14 := kp11.trans (c14.mono (ms' := rdMq) (by decide))
  generalize hx14 : dqF (x2.1) x2.2 = x14 at ju14 e14
  have uu14 := ju14.2.2
  unfold uOK at uu14
  have jfr14 := jfr11.kept hfr c14 (by decide)
  have jdt14 := jdt11.kept hdt rfl (by decide) c14 (by decide)
  have jtm14 := jtm11.kept htm rfl (by decide) c14 (by decide)
  have jlp14 := jlp11.kept hlp c14 (by decide) (by decide) (by decide)
  refine W.eq (g2 := F0 m 47 ls [.long v14, .int v13, .int v12, .ref fr]) rfl ?_
  refine tz_rowV (As := [.int v12, .int v13, .long v14]) (st := []) (b := fr) (C := RX4) (Ts := gT) hx hb hml hown h2 (fun _ h => h) (ty_V (J := fun _ => True) (vs := [.ref fr, .int v12, .int v13, .long v14]) (ms := [(17, 0)]) (mX4_put l D cA ro sz H0) (ty_pre ⟨Or.inr ⟨_, rfl, hfr⟩, ty_i _, ty_i _, ty_l _, trivial⟩ rfl rfl) rfl rfl) ⟨rfl, rfl⟩ ⟨by decide, by decide⟩ ⟨by decide, by decide⟩ (tb_5 82 rfl rfl) (tb_1 7 rfl rfl) (tb_5 79 rfl rfl) (tb_5 80 rfl rfl) (tb_5 81 rfl rfl) (show yX4_put.cls ≠ "java/lang/invoke/MethodHandle" ∧ yX4_put.cls ≠ "java/lang/invoke/VarHandle" ∧ (parseMethodDescriptor yX4_put.desc).map (fun d => d.parameters.length) = some 3 by decide +kernel) zs_blind (zs_ob hh14 hfr (show RTg[3]? = some (0, 3, 0, fsX4) from rfl) (zCX4 hKn.1)) (fun U hU hW => ⟨rfl, by rw [hU]; exact hh14.l0, zKb s U hW.alike hKn, by rw [hU]; exact trivial⟩) hh14.2.2.1 hl.1 (Nat.le_of_ble_eq_true rfl) (eX4_scanDate (47, .invokevirtual 82, 3) (List.mem_of_getElem? (i := 27) rfl)) (fun r15 s15 t15 lo15 g15 f15 l15 => ?_)
  obtain ⟨q15, z15, c15⟩ := f15
  cases q15
  rw [g15] at c15
  have hh15 : zh_ok D cA RTg ro sz H0 t15.heap lo15 := ⟨z15.1, z15.2.1, l15, z15.2.2.2⟩
  have kp15 := kp14.trans (c15.mono (ms' := rdMq) (by decide))
  have jfr15 := jfr14.kept hfr c15 (by decide)
  have ju15 := ju14.kept htx c15 (by decide)
  have jdt15 := jdt14.kept hdt rfl (by decide) c15 (by decide)
  have jtm15 := jtm14.kept htm rfl (by decide) c15 (by decide)
  have jlp15 := jlp14.kept hlp c15 (by decide) (by decide) (by decide)
  refine W.eq (g2 := F0 m 50 ls []) rfl ?_
  have hfin : dqqF T x = (x2.1, x.2.1, x14.2) := by first | (simp only [dqqF, hx2, hx14, up_eq]; done) | (simp only [dqqF, hx2, hx14, up_eq] <;> rfl) | rfl
  exact W.vret hx hb hr (fun t ht hW => ⟨rfl, by rw [ht]; exact hh15.l0, by rw [ht]; exact kp15, by rw [ht, hfin]; exact ⟨jfr15, ju15, jdt15, jtm15, jlp15⟩⟩) hh15.2.2.1 (eX4_scanDate (50, .return_, 1) (List.mem_of_getElem? (i := 28) rfl))
set_option maxRecDepth 100000 in
set_option maxHeartbeats 4000000 in
theorem hX4_scanTime (l : Launch) (D : va_G) (cA : Nat → ClassId) (ro : Nat → Option Nat) (sz : Nat) (H0 : Heap) (fr : Nat)  (tx lp dt tm du : Nat) (T L : List Int) (x : mS) (hfr : ro fr = some 3) (htx : ro tx = some 0) (hlp : ro lp = some 4) (hdt : ro dt = some 1) (htm : ro tm = some 7) (hdu : ro du = some 2) : Met l yX4_scanTime (gW yX4_scanTime cX4_scanTime 1 none) { frames := 4, cells := 0, slots := 0, locals := 101 } (zs_PC D cA ro sz H0 (fun H => jRw D cA ro H fr tx lp dt tm du T L x) [.ref fr]) (rd_V D cA ro sz H0 fr tx lp dt tm du T L (tqqF T L x)) 0 0 (zy_fr sz) := by
  refine zy_ofW (cc := cX4_scanTime) (maxL := 1) (ret := none) (by decide +kernel) rfl ?_
  intro p e s m args below meth c s1 B hml hv
  obtain ⟨rfl, hh, ⟨hKn, hBQ, hLQ⟩, hJ⟩ := hv
  have hx := B.exec
  have hb := B.bytes
  have hr := B.returns
  have hlk := B.notSynchronized
  have hts0 := atoms_spec (ws := gW yX4_scanTime cX4_scanTime 1 none) B.pre
  have h2 : ∀ w ∈ gT, w.before ([.ref fr] : List Value).toArray s = true := fun w hw => hts0 w (List.mem_cons_of_mem _ hw)
  have hown : s.vm.findClass RX4 = some m.cls := findClass_of_methodNamed B.named
  have hl := lv_entry [.ref fr] (n := 1) (Nat.le_of_ble_eq_true rfl)
  rw [lg_entry_eq]
  generalize (lg_sl [.ref fr] ++ List.replicate (1 - (lg_sl [.ref fr]).length) Slot.unset).toArray = ls at hl ⊢
  have hD := zD_all h2 hKn.1
  have hcl3 := fun (idx k : Nat) (t : zt_T) (h : (idx, 3, k) ∈ gfX4) (hk : fsX4[k]? = some t) => zf_clause (ro := ro) (ms := rdMq) h2 hown hKn.1 gfX4_ok (by decide +kernel) idx 3 k 3 0 fsX4 t h rfl hk
  have hcl0 := fun (idx k : Nat) (t : zt_T) (h : (idx, 0, k) ∈ gfX4) (hk : fsX0[k]? = some t) => zf_clause (ro := ro) (ms := rdMq) h2 hown hKn.1 gfX4_ok (by decide +kernel) idx 0 k 0 0 fsX0 t h rfl hk
  have hcl1 := fun (idx k : Nat) (t : zt_T) (h : (idx, 1, k) ∈ gfX4) (hk : fsX1[k]? = some t) => zf_clause (ro := ro) (ms := rdMq) h2 hown hKn.1 gfX4_ok (by decide +kernel) idx 1 k 1 0 fsX1 t h rfl hk
  have hcl7 := fun (idx k : Nat) (t : zt_T) (h : (idx, 7, k) ∈ gfX4) (hk : fsX8[k]? = some t) => zf_clause (ro := ro) (ms := rdMq) h2 hown hKn.1 gfX4_ok (by decide +kernel) idx 7 k 7 0 fsX8 t h rfl hk
  have hcl2 := fun (idx k : Nat) (t : zt_T) (h : (idx, 2, k) ∈ gfX4) (hk : fsX3[k]? = some t) => zf_clause (ro := ro) (ms := rdMq) h2 hown hKn.1 gfX4_ok (by decide +kernel) idx 2 k 2 0 fsX3 t h rfl hk
  have kp0 : zc_kept D RTg ro rdMq s.heap s.heap := zc_kept.refl
  obtain ⟨jfr0, ju0, jdt0, jtm0, jlp0⟩ := hJ
  have hu := ju0.2.2
  unfold uOK at hu
  refine lv_aload_n hx hb (eX4_scanTime (0, .aload_n 0, 1) (List.mem_of_getElem? (i := 0) rfl)) rfl (lv_at hl 0 rfl) ?_
  refine tz_get (r := 3) (k := 0) (t := (4, 0, 0)) hx hb hh hfr rfl rfl (hcl3 36 0 (4, 0, 0) (by decide) rfl).1 jfr0.1 (eX4_scanTime (1, .getfield 36, 3) (List.mem_of_getElem? (i := 1) rfl)) ?_
  refine ff_bipush hx hb (eX4_scanTime (4, .bipush 84, 2) (List.mem_of_getElem? (i := 2) rfl)) (by decide) (by decide) (fun v1 e1 => ?_)
  refine tz_rowV (As := [.int v1]) (st := []) (b := tx) (C := RX0) (Ts := gT) hx hb hml hown h2 (fun _ h => h) (hX0_take l D cA ro sz H0 tx v1 84 T (x.2.2) htx (by omega) (by decide)) ⟨rfl, rfl⟩ ⟨by decide, by decide⟩ ⟨by decide, by decide⟩ (tb_4 8 rfl rfl) (tb_1 5 rfl rfl) (tb_4 229 rfl rfl) (tb_4 6 rfl rfl) (tb_4 7 rfl rfl) (show yX0_take.cls ≠ "java/lang/invoke/MethodHandle" ∧ yX0_take.cls ≠ "java/lang/invoke/VarHandle" ∧ (parseMethodDescriptor yX0_take.desc).map (fun d => d.parameters.length) = some 1 by decide +kernel) zs_blind (zs_ob hh htx (show RTg[0]? = some (0, 0, 0, fsX0) from rfl) (zCX0 hKn.1)) (fun U hU hW => ⟨rfl, by rw [hU]; exact hh.l0, zKb s U hW.alike hKn, by rw [hU]; exact ju0⟩) hh.2.2.1 hl.1 (Nat.le_of_ble_eq_true rfl) (eX4_scanTime (6, .invokevirtual 61, 3) (List.mem_of_getElem? (i := 3) rfl)) (fun r2 s2 t2 lo2 g2 f2 l2 => ?_)
  obtain ⟨v2, q2, e2, z2, c2, ju2, fx2⟩ := f2
  cases q2
  rw [g2] at c2 fx2
  have hh2 : zh_ok D cA RTg ro sz H0 t2.heap lo2 := ⟨z2.1, z2.2.1, l2, z2.2.2.2⟩
  have kp2 := kp0.trans (c2.mono (ms' := rdMq) (by decide))
  have kf2 := tkF_01 T 84 x.2.2
  generalize hx2 : tkF T 84 x.2.2 = x2 at ju2 e2 kf2
  have uu2 := ju2.2.2
  unfold uOK at uu2
  have jfr2 := jfr0.kept hfr c2 (by decide)
  have jdt2 := jdt0.kept hdt rfl (by decide) c2 (by decide)
  have jtm2 := jtm0.kept htm rfl (by decide) c2 (by decide)
  have jlp2 := jlp0.kept hlp c2 (by decide) (by decide) (by decide)
  refine W.eq (g2 := F0 m 9 ls [.int v2]) rfl ?_
  refine lv_pop hx hb (eX4_scanTime (9, .pop, 1) (List.mem_of_getElem? (i := 4) rfl)) rfl ?_
  refine lv_aload_n hx hb (eX4_scanTime (10, .aload_n 0, 1) (List.mem_of_getElem? (i := 5) rfl)) rfl (lv_at hl 0 rfl) ?_
  refine tz_get (r := 3) (k := 3) (t := (18, 0, 0)) hx hb hh2 hfr rfl rfl (hcl3 21 3 (18, 0, 0) (by decide) rfl).1 jfr2.2.2.2.1 (eX4_scanTime (11, .getfield 21, 3) (List.mem_of_getElem? (i := 6) rfl)) ?_
  refine lv_aload_n hx hb (eX4_scanTime (14, .aload_n 0, 1) (List.mem_of_getElem? (i := 7) rfl)) rfl (lv_at hl 0 rfl) ?_
  refine tz_get (r := 3) (k := 0) (t := (4, 0, 0)) hx hb hh2 hfr rfl rfl (hcl3 36 0 (4, 0, 0) (by decide) rfl).1 jfr2.1 (eX4_scanTime (15, .getfield 36, 3) (List.mem_of_getElem? (i := 8) rfl)) ?_
  refine ff_iconst hx hb (eX4_scanTime (18, .iconst 0, 1) (List.mem_of_getElem? (i := 9) rfl)) (by decide) (by decide) (fun v3 e3 => ?_)
  refine tz_rowV (As := [.ref tx, .int v3]) (st := []) (b := tm) (C := RX8) (Ts := gT) hx hb hml hown h2 (fun _ h => h) (hX8_scan l D cA ro sz H0 tm tx v3 0 T (x2.2) (x.2.1) htm htx (by omega)) ⟨rfl, rfl⟩ ⟨by decide, by decide⟩ ⟨by decide, by decide⟩ (tb_5 135 rfl rfl) (tb_1 9 rfl rfl) (tb_5 132 rfl rfl) (tb_5 133 rfl rfl) (tb_5 134 rfl rfl) (show yX8_scan.cls ≠ "java/lang/invoke/MethodHandle" ∧ yX8_scan.cls ≠ "java/lang/invoke/VarHandle" ∧ (parseMethodDescriptor yX8_scan.desc).map (fun d => d.parameters.length) = some 2 by decide +kernel) zs_blind (zs_ob hh2 htm (show RTg[7]? = some (0, 7, 0, fsX8) from rfl) (zCX8 hKn.1)) (fun U hU hW => ⟨rfl, by rw [hU]; exact hh2.l0, zKb s U hW.alike hKn, by rw [hU]; exact ⟨ju2, jtm2⟩⟩) hh2.2.2.1 hl.1 (Nat.le_of_ble_eq_true rfl) (eX4_scanTime (19, .invokevirtual 89, 3) (List.mem_of_getElem? (i := 10) rfl)) (fun r4 s4 t4 lo4 g4 f4 l4 => ?_)
  obtain ⟨q4, z4, c4, ju4, jtm4, fx4⟩ := f4
  cases q4
  rw [g4] at c4 fx4
  have hh4 : zh_ok D cA RTg ro sz H0 t4.heap lo4 := ⟨z4.1, z4.2.1, l4, z4.2.2.2⟩
  have kp4 := kp2.trans (c4.mono (ms' := rdMq) (by decide))
  generalize hx4 : tmF9 T 0 (x.2.1, x2.2) = x4 at ju4 jtm4
  have uu4 := ju4.2.2
  unfold uOK at uu4
  have jfr4 := jfr2.kept hfr c4 (by decide)
  have jdt4 := jdt2.kept hdt rfl (by decide) c4 (by decide)
  have jlp4 := jlp2.kept hlp c4 (by decide) (by decide) (by decide)
  refine W.eq (g2 := F0 m 22 ls []) rfl ?_
  refine lv_aload_n hx hb (eX4_scanTime (22, .aload_n 0, 1) (List.mem_of_getElem? (i := 11) rfl)) rfl (lv_at hl 0 rfl) ?_
  refine ff_iconst hx hb (eX4_scanTime (23, .iconst 0, 1) (List.mem_of_getElem? (i := 12) rfl)) (by decide) (by decide) (fun v5 e5 => ?_)
  refine ff_iconst hx hb (eX4_scanTime (24, .iconst 2, 1) (List.mem_of_getElem? (i := 13) rfl)) (by decide) (by decide) (fun v6 e6 => ?_)
  refine ff_ldc2 (n := (-9223372036854775808)) hx hb hown h2 (clX4_ok 49 (-9223372036854775808) (List.mem_of_getElem? (i := 0) rfl)) (eX4_scanTime (25, .ldc2_w 49, 3) (List.mem_of_getElem? (i := 14) rfl)) (fun v7 e7 => ?_)
  refine tz_rowV (As := [.int v5, .int v6, .long v7]) (st := []) (b := fr) (C := RX4) (Ts := gT) hx hb hml hown h2 (fun _ h => h) (hX4_stageTime l D cA ro sz H0 fr v5 v6 v7 tx lp dt tm du T L (x.1, x4.1, x4.2) NONEI hfr htx hlp hdt htm hdu (by unfold NONEI; omega) (fun q9 => absurd rfl q9) (by rw [← hx4]; exact tm_tb T 0 _)) ⟨rfl, rfl⟩ ⟨by decide, by decide⟩ ⟨by decide, by decide⟩ (tb_5 55 rfl rfl) (tb_1 7 rfl rfl) (tb_5 52 rfl rfl) (tb_5 53 rfl rfl) (tb_5 54 rfl rfl) (show yX4_stageTime.cls ≠ "java/lang/invoke/MethodHandle" ∧ yX4_stageTime.cls ≠ "java/lang/invoke/VarHandle" ∧ (parseMethodDescriptor yX4_stageTime.desc).map (fun d => d.parameters.length) = some 3 by decide +kernel) zs_blindC (zs_ob hh4 hfr (show RTg[3]? = some (0, 3, 0, fsX4) from rfl) (zCX4 hKn.1)) (fun U hU hW => ⟨rfl, by rw [hU]; exact hh4.l0, ⟨zKb s U hW.alike hKn, hBQ.alike hW.alike, hLQ.alike hW.alike⟩, by rw [hU]; exact ⟨jfr4, ju4, jdt4, jtm4, jlp4⟩⟩) hh4.2.2.1 hl.1 (Nat.le_of_ble_eq_true rfl) (eX4_scanTime (28, .invokevirtual 92, 3) (List.mem_of_getElem? (i := 15) rfl)) (fun r8 s8 t8 lo8 g8 f8 l8 => ?_)
  obtain ⟨q8, z8, c8, jb8⟩ := f8
  cases q8
  rw [g8] at c8
  have hh8 : zh_ok D cA RTg ro sz H0 t8.heap lo8 := ⟨z8.1, z8.2.1, l8, z8.2.2.2⟩
  have kp8 := kp4.trans (c8.mono (ms' := rdMq) (by decide))
  generalize hx8 : (x.1, x4.1, tqF L NONEI (x4.1) x4.2) = x8 at jb8
  obtain ⟨jfr8, ju8, jdt8, jtm8, jlp8⟩ := jb8
  have uu8 := ju8.2.2
  unfold uOK at uu8
  refine W.eq (g2 := F0 m 31 ls []) rfl ?_
  have hfin : tqqF T L x = (x8.1, x8.2.1, x8.2.2) := by first | (simp only [tqqF, hx2, hx4, hx8, up_eq]; done) | (simp only [tqqF, hx2, hx4, hx8, up_eq] <;> rfl) | rfl
  exact W.vret hx hb hr (fun t ht hW => ⟨rfl, by rw [ht]; exact hh8.l0, by rw [ht]; exact kp8, by rw [ht, hfin]; exact ⟨jfr8, ju8, jdt8, jtm8, jlp8⟩⟩) hh8.2.2.1 (eX4_scanTime (31, .return_, 1) (List.mem_of_getElem? (i := 16) rfl))
set_option maxRecDepth 100000 in
set_option maxHeartbeats 4000000 in
theorem hX4_scanMoment (l : Launch) (D : va_G) (cA : Nat → ClassId) (ro : Nat → Option Nat) (sz : Nat) (H0 : Heap) (fr : Nat) (pa : Int32) (tx lp dt tm du : Nat) (T L : List Int) (x : mS) (hfr : ro fr = some 3) (htx : ro tx = some 0) (hlp : ro lp = some 4) (hdt : ro dt = some 1) (htm : ro tm = some 7) (hdu : ro du = some 2) : Met l yX4_scanMoment (gW yX4_scanMoment cX4_scanMoment 2 none) { frames := 5, cells := 0, slots := 0, locals := 128 } (zs_PC D cA ro sz H0 (fun H => jRw D cA ro H fr tx lp dt tm du T L x) [.ref fr, .int pa]) (rd_V D cA ro sz H0 fr tx lp dt tm du T L (mqF T L x)) 0 0 (zy_fr sz) := by
  refine zy_ofW (cc := cX4_scanMoment) (maxL := 2) (ret := none) (by decide +kernel) rfl ?_
  intro p e s m args below meth c s1 B hml hv
  obtain ⟨rfl, hh, ⟨hKn, hBQ, hLQ⟩, hJ⟩ := hv
  have hx := B.exec
  have hb := B.bytes
  have hr := B.returns
  have hlk := B.notSynchronized
  have hts0 := atoms_spec (ws := gW yX4_scanMoment cX4_scanMoment 2 none) B.pre
  have h2 : ∀ w ∈ gT, w.before ([.ref fr, .int pa] : List Value).toArray s = true := fun w hw => hts0 w (List.mem_cons_of_mem _ hw)
  have hown : s.vm.findClass RX4 = some m.cls := findClass_of_methodNamed B.named
  have hl := lv_entry [.ref fr, .int pa] (n := 2) (Nat.le_of_ble_eq_true rfl)
  rw [lg_entry_eq]
  generalize (lg_sl [.ref fr, .int pa] ++ List.replicate (2 - (lg_sl [.ref fr, .int pa]).length) Slot.unset).toArray = ls at hl ⊢
  have b_pa := zn_i32 pa
  have hD := zD_all h2 hKn.1
  have hcl3 := fun (idx k : Nat) (t : zt_T) (h : (idx, 3, k) ∈ gfX4) (hk : fsX4[k]? = some t) => zf_clause (ro := ro) (ms := rdMq) h2 hown hKn.1 gfX4_ok (by decide +kernel) idx 3 k 3 0 fsX4 t h rfl hk
  have hcl0 := fun (idx k : Nat) (t : zt_T) (h : (idx, 0, k) ∈ gfX4) (hk : fsX0[k]? = some t) => zf_clause (ro := ro) (ms := rdMq) h2 hown hKn.1 gfX4_ok (by decide +kernel) idx 0 k 0 0 fsX0 t h rfl hk
  have hcl1 := fun (idx k : Nat) (t : zt_T) (h : (idx, 1, k) ∈ gfX4) (hk : fsX1[k]? = some t) => zf_clause (ro := ro) (ms := rdMq) h2 hown hKn.1 gfX4_ok (by decide +kernel) idx 1 k 1 0 fsX1 t h rfl hk
  have hcl7 := fun (idx k : Nat) (t : zt_T) (h : (idx, 7, k) ∈ gfX4) (hk : fsX8[k]? = some t) => zf_clause (ro := ro) (ms := rdMq) h2 hown hKn.1 gfX4_ok (by decide +kernel) idx 7 k 7 0 fsX8 t h rfl hk
  have hcl2 := fun (idx k : Nat) (t : zt_T) (h : (idx, 2, k) ∈ gfX4) (hk : fsX3[k]? = some t) => zf_clause (ro := ro) (ms := rdMq) h2 hown hKn.1 gfX4_ok (by decide +kernel) idx 2 k 2 0 fsX3 t h rfl hk
  have kp0 : zc_kept D RTg ro rdMq s.heap s.heap := zc_kept.refl
  obtain ⟨jfr0, ju0, jdt0, jtm0, jlp0⟩ := hJ
  have hu := ju0.2.2
  unfold uOK at hu
  refine lv_aload_n hx hb (eX4_scanMoment (0, .aload_n 0, 1) (List.mem_of_getElem? (i := 0) rfl)) rfl (lv_at hl 0 rfl) ?_
  refine tz_get (r := 3) (k := 2) (t := (6, 0, 0)) hx hb hh hfr rfl rfl (hcl3 12 2 (6, 0, 0) (by decide) rfl).1 jfr0.2.2.1 (eX4_scanMoment (1, .getfield 12, 3) (List.mem_of_getElem? (i := 1) rfl)) ?_
  refine lv_aload_n hx hb (eX4_scanMoment (4, .aload_n 0, 1) (List.mem_of_getElem? (i := 2) rfl)) rfl (lv_at hl 0 rfl) ?_
  refine tz_get (r := 3) (k := 0) (t := (4, 0, 0)) hx hb hh hfr rfl rfl (hcl3 36 0 (4, 0, 0) (by decide) rfl).1 jfr0.1 (eX4_scanMoment (5, .getfield 36, 3) (List.mem_of_getElem? (i := 3) rfl)) ?_
  refine ff_iconst hx hb (eX4_scanMoment (8, .iconst 1, 1) (List.mem_of_getElem? (i := 4) rfl)) (by decide) (by decide) (fun v1 e1 => ?_)
  refine tz_rowV (As := [.ref tx, .int v1]) (st := []) (b := dt) (C := RX1) (Ts := gT) hx hb hml hown h2 (fun _ h => h) (hX1_scan l D cA ro sz H0 dt tx v1 1 T (x.2.2) (x.1) hdt htx (by omega) (by decide)) ⟨rfl, rfl⟩ ⟨by decide, by decide⟩ ⟨by decide, by decide⟩ (tb_5 104 rfl rfl) (tb_1 8 rfl rfl) (tb_5 101 rfl rfl) (tb_5 102 rfl rfl) (tb_5 103 rfl rfl) (show yX1_scan.cls ≠ "java/lang/invoke/MethodHandle" ∧ yX1_scan.cls ≠ "java/lang/invoke/VarHandle" ∧ (parseMethodDescriptor yX1_scan.desc).map (fun d => d.parameters.length) = some 2 by decide +kernel) zs_blind (zs_ob hh hdt (show RTg[1]? = some (0, 1, 0, fsX1) from rfl) (zCX1 hKn.1)) (fun U hU hW => ⟨rfl, by rw [hU]; exact hh.l0, zKb s U hW.alike hKn, by rw [hU]; exact ⟨ju0, jdt0⟩⟩) hh.2.2.1 hl.1 (Nat.le_of_ble_eq_true rfl) (eX4_scanMoment (9, .invokevirtual 78, 3) (List.mem_of_getElem? (i := 5) rfl)) (fun r2 s2 t2 lo2 g2 f2 l2 => ?_)
  obtain ⟨q2, z2, c2, ju2, jdt2, fx2⟩ := f2
  cases q2
  rw [g2] at c2 fx2
  have hh2 : zh_ok D cA RTg ro sz H0 t2.heap lo2 := ⟨z2.1, z2.2.1, l2, z2.2.2.2⟩
  have kp2 := kp0.trans (c2.mono (ms' := rdMq) (by decide))
  generalize hx2 : dtF T 1 (x.1, x.2.2) = x2 at ju2 jdt2
  have uu2 := ju2.2.2
  unfold uOK at uu2
  have jfr2 := jfr0.kept hfr c2 (by decide)
  have jtm2 := jtm0.kept htm rfl (by decide) c2 (by decide)
  have jlp2 := jlp0.kept hlp c2 (by decide) (by decide) (by decide)
  refine W.eq (g2 := F0 m 12 ls []) rfl ?_
  refine lv_aload_n hx hb (eX4_scanMoment (12, .aload_n 0, 1) (List.mem_of_getElem? (i := 6) rfl)) rfl (lv_at hl 0 rfl) ?_
  refine tz_get (r := 3) (k := 0) (t := (4, 0, 0)) hx hb hh2 hfr rfl rfl (hcl3 36 0 (4, 0, 0) (by decide) rfl).1 jfr2.1 (eX4_scanMoment (13, .getfield 36, 3) (List.mem_of_getElem? (i := 7) rfl)) ?_
  refine ff_bipush hx hb (eX4_scanMoment (16, .bipush 84, 2) (List.mem_of_getElem? (i := 8) rfl)) (by decide) (by decide) (fun v3 e3 => ?_)
  refine tz_rowV (As := [.int v3]) (st := []) (b := tx) (C := RX0) (Ts := gT) hx hb hml hown h2 (fun _ h => h) (hX0_need l D cA ro sz H0 tx v3 84 T (x2.2) htx (by omega) (by decide)) ⟨rfl, rfl⟩ ⟨by decide, by decide⟩ ⟨by decide, by decide⟩ (tb_4 44 rfl rfl) (tb_1 5 rfl rfl) (tb_4 230 rfl rfl) (tb_4 42 rfl rfl) (tb_4 43 rfl rfl) (show yX0_need.cls ≠ "java/lang/invoke/MethodHandle" ∧ yX0_need.cls ≠ "java/lang/invoke/VarHandle" ∧ (parseMethodDescriptor yX0_need.desc).map (fun d => d.parameters.length) = some 1 by decide +kernel) zs_blind (zs_ob hh2 htx (show RTg[0]? = some (0, 0, 0, fsX0) from rfl) (zCX0 hKn.1)) (fun U hU hW => ⟨rfl, by rw [hU]; exact hh2.l0, zKb s U hW.alike hKn, by rw [hU]; exact ju2⟩) hh2.2.2.1 hl.1 (Nat.le_of_ble_eq_true rfl) (eX4_scanMoment (18, .invokevirtual 65, 3) (List.mem_of_getElem? (i := 9) rfl)) (fun r4 s4 t4 lo4 g4 f4 l4 => ?_)
  obtain ⟨q4, z4, c4, ju4, fx4⟩ := f4
  cases q4
  rw [g4] at c4 fx4
  have hh4 : zh_ok D cA RTg ro sz H0 t4.heap lo4 := ⟨z4.1, z4.2.1, l4, z4.2.2.2⟩
  have kp4 := kp2.trans (c4.mono (ms' := rdMq) (by decide))
  generalize hx4 : ndF T 84 x2.2 = x4 at ju4
  have uu4 := ju4.2.2
  unfold uOK at uu4
  have jfr4 := jfr2.kept hfr c4 (by decide)
  have jdt4 := jdt2.kept hdt rfl (by decide) c4 (by decide)
  have jtm4 := jtm2.kept htm rfl (by decide) c4 (by decide)
  have jlp4 := jlp2.kept hlp c4 (by decide) (by decide) (by decide)
  refine W.eq (g2 := F0 m 21 ls []) rfl ?_
  refine lv_aload_n hx hb (eX4_scanMoment (21, .aload_n 0, 1) (List.mem_of_getElem? (i := 10) rfl)) rfl (lv_at hl 0 rfl) ?_
  refine tz_get (r := 3) (k := 3) (t := (18, 0, 0)) hx hb hh4 hfr rfl rfl (hcl3 21 3 (18, 0, 0) (by decide) rfl).1 jfr4.2.2.2.1 (eX4_scanMoment (22, .getfield 21, 3) (List.mem_of_getElem? (i := 11) rfl)) ?_
  refine lv_aload_n hx hb (eX4_scanMoment (25, .aload_n 0, 1) (List.mem_of_getElem? (i := 12) rfl)) rfl (lv_at hl 0 rfl) ?_
  refine tz_get (r := 3) (k := 0) (t := (4, 0, 0)) hx hb hh4 hfr rfl rfl (hcl3 36 0 (4, 0, 0) (by decide) rfl).1 jfr4.1 (eX4_scanMoment (26, .getfield 36, 3) (List.mem_of_getElem? (i := 13) rfl)) ?_
  refine lv_aload_n hx hb (eX4_scanMoment (29, .aload_n 0, 1) (List.mem_of_getElem? (i := 14) rfl)) rfl (lv_at hl 0 rfl) ?_
  refine tz_get (r := 3) (k := 2) (t := (6, 0, 0)) hx hb hh4 hfr rfl rfl (hcl3 12 2 (6, 0, 0) (by decide) rfl).1 jfr4.2.2.1 (eX4_scanMoment (30, .getfield 12, 3) (List.mem_of_getElem? (i := 15) rfl)) ?_
  obtain ⟨v5, fa5, e5⟩ := jdt4 1 (by decide)
  refine tz_get (r := 1) (k := 1) (t := (0, 0, 1)) hx hb hh4 hdt rfl rfl (hcl1 95 1 (0, 0, 1) (by decide) rfl).1 fa5 (eX4_scanMoment (33, .getfield 95, 3) (List.mem_of_getElem? (i := 16) rfl)) ?_
  refine ff_if_eq hx hb (eX4_scanMoment (36, .ifCond .eq 7, 3) (List.mem_of_getElem? (i := 17) rfl)) (tgt := 43) rfl (fun c6 => ?_) (fun c6 => ?_)
  · have dm : ¬ x2.1 1 = 1 := by omega
    refine ff_iconst hx hb (eX4_scanMoment (43, .iconst 2, 1) (List.mem_of_getElem? (i := 20) rfl)) (by decide) (by decide) (fun v7 e7 => ?_)
    refine tz_rowV (As := [.ref tx, .int v7]) (st := []) (b := tm) (C := RX8) (Ts := gT) hx hb hml hown h2 (fun _ h => h) (hX8_scan l D cA ro sz H0 tm tx v7 2 T (x4) (x.2.1) htm htx (by omega)) ⟨rfl, rfl⟩ ⟨by decide, by decide⟩ ⟨by decide, by decide⟩ (tb_5 135 rfl rfl) (tb_1 9 rfl rfl) (tb_5 132 rfl rfl) (tb_5 133 rfl rfl) (tb_5 134 rfl rfl) (show yX8_scan.cls ≠ "java/lang/invoke/MethodHandle" ∧ yX8_scan.cls ≠ "java/lang/invoke/VarHandle" ∧ (parseMethodDescriptor yX8_scan.desc).map (fun d => d.parameters.length) = some 2 by decide +kernel) zs_blind (zs_ob hh4 htm (show RTg[7]? = some (0, 7, 0, fsX8) from rfl) (zCX8 hKn.1)) (fun U hU hW => ⟨rfl, by rw [hU]; exact hh4.l0, zKb s U hW.alike hKn, by rw [hU]; exact ⟨ju4, jtm4⟩⟩) hh4.2.2.1 hl.1 (Nat.le_of_ble_eq_true rfl) (eX4_scanMoment (44, .invokevirtual 89, 3) (List.mem_of_getElem? (i := 21) rfl)) (fun r8 s8 t8 lo8 g8 f8 l8 => ?_)
    obtain ⟨q8, z8, c8, ju8, jtm8, fx8⟩ := f8
    cases q8
    rw [g8] at c8 fx8
    have hh8 : zh_ok D cA RTg ro sz H0 t8.heap lo8 := ⟨z8.1, z8.2.1, l8, z8.2.2.2⟩
    have kp8 := kp4.trans (c8.mono (ms' := rdMq) (by decide))
    generalize hx8 : tmF9 T 2 (x.2.1, x4) = x8 at ju8 jtm8
    have uu8 := ju8.2.2
    unfold uOK at uu8
    have jfr8 := jfr4.kept hfr c8 (by decide)
    have jdt8 := jdt4.kept hdt rfl (by decide) c8 (by decide)
    have jlp8 := jlp4.kept hlp c8 (by decide) (by decide) (by decide)
    refine W.eq (g2 := F0 m 47 ls []) rfl ?_
    refine lv_aload_n hx hb (eX4_scanMoment (47, .aload_n 0, 1) (List.mem_of_getElem? (i := 22) rfl)) rfl (lv_at hl 0 rfl) ?_
    refine lv_iload_n hx hb (eX4_scanMoment (48, .iload_n 1, 1) (List.mem_of_getElem? (i := 23) rfl)) rfl (lv_at hl 1 rfl) ?_
    refine ff_iconst hx hb (eX4_scanMoment (49, .iconst 3, 1) (List.mem_of_getElem? (i := 24) rfl)) (by decide) (by decide) (fun v9 e9 => ?_)
    refine lv_aload_n hx hb (eX4_scanMoment (50, .aload_n 0, 1) (List.mem_of_getElem? (i := 25) rfl)) rfl (lv_at hl 0 rfl) ?_
    refine tz_get (r := 3) (k := 2) (t := (6, 0, 0)) hx hb hh8 hfr rfl rfl (hcl3 12 2 (6, 0, 0) (by decide) rfl).1 jfr8.2.2.1 (eX4_scanMoment (51, .getfield 12, 3) (List.mem_of_getElem? (i := 26) rfl)) ?_
    refine lv_aload_n hx hb (eX4_scanMoment (54, .aload_n 0, 1) (List.mem_of_getElem? (i := 27) rfl)) rfl (lv_at hl 0 rfl) ?_
    refine tz_get (r := 3) (k := 0) (t := (4, 0, 0)) hx hb hh8 hfr rfl rfl (hcl3 36 0 (4, 0, 0) (by decide) rfl).1 jfr8.1 (eX4_scanMoment (55, .getfield 36, 3) (List.mem_of_getElem? (i := 28) rfl)) ?_
    refine tz_rowV (As := [.ref tx]) (st := [.int v9, .int pa, .ref fr]) (b := dt) (C := RX1) (Ts := gT) hx hb hml hown h2 (fun _ h => h) (hX1_settle l D cA ro sz H0 dt tx T (x8.2) (x2.1) hdt htx (by rw [← hx2]; exact (dt_db T 1 _).1) (fun _ => by rw [← hx2]; exact (dt_db T 1 _).2.2)) ⟨rfl, rfl⟩ ⟨by decide, by decide⟩ ⟨by decide, by decide⟩ (tb_5 28 rfl rfl) (tb_1 8 rfl rfl) (tb_5 25 rfl rfl) (tb_5 26 rfl rfl) (tb_5 27 rfl rfl) (show yX1_settle.cls ≠ "java/lang/invoke/MethodHandle" ∧ yX1_settle.cls ≠ "java/lang/invoke/VarHandle" ∧ (parseMethodDescriptor yX1_settle.desc).map (fun d => d.parameters.length) = some 1 by decide +kernel) zs_blindB (zs_ob hh8 hdt (show RTg[1]? = some (0, 1, 0, fsX1) from rfl) (zCX1 hKn.1)) (fun U hU hW => ⟨rfl, by rw [hU]; exact hh8.l0, ⟨zKb s U hW.alike hKn, hBQ.alike hW.alike⟩, by rw [hU]; exact ⟨ju8, jdt8⟩⟩) hh8.2.2.1 hl.1 (Nat.le_of_ble_eq_true rfl) (eX4_scanMoment (58, .invokevirtual 70, 3) (List.mem_of_getElem? (i := 29) rfl)) (fun r10 s10 t10 lo10 g10 f10 l10 => ?_)
    obtain ⟨v10, q10, e10, z10, c10, ju10, fx10⟩ := f10
    cases q10
    rw [g10] at c10 fx10
    have hh10 : zh_ok D cA RTg ro sz H0 t10.heap lo10 := ⟨z10.1, z10.2.1, l10, z10.2.2.2⟩
    have kp10 := kp8.trans (c10.mono (ms' := rdMq) (by decide))
    generalize hx10 : dqF (x2.1) x8.2 = x10 at ju10 e10
    have uu10 := ju10.2.2
    unfold uOK at uu10
    have jfr10 := jfr8.kept hfr c10 (by decide)
    have jdt10 := jdt8.kept hdt rfl (by decide) c10 (by decide)
    have jtm10 := jtm8.kept htm rfl (by decide) c10 (by decide)
    have jlp10 := jlp8.kept hlp c10 (by decide) (by decide) (by decide)
    refine W.eq (g2 := F0 m 61 ls [.long v10, .int v9, .int pa, .ref fr]) rfl ?_
    refine tz_rowV (As := [.int pa, .int v9, .long v10]) (st := []) (b := fr) (C := RX4) (Ts := gT) hx hb hml hown h2 (fun _ h => h) (hX4_stageMoment l D cA ro sz H0 fr pa v9 v10 tx lp dt tm du T L (x2.1, x8.1, x10.2) x10.1 hfr htx hlp hdt htm hdu (by omega) (by rw [← hx10]; exact dq_in (fun _ => by rw [← hx2]; exact ⟨(dt_db T 1 _).1, (dt_db T 1 _).2.2⟩)) (fun _ => by rw [← hx8]; exact tm_tb T _ _)) ⟨rfl, rfl⟩ ⟨by decide, by decide⟩ ⟨by decide, by decide⟩ (tb_5 51 rfl rfl) (tb_1 7 rfl rfl) (tb_5 48 rfl rfl) (tb_5 49 rfl rfl) (tb_5 50 rfl rfl) (show yX4_stageMoment.cls ≠ "java/lang/invoke/MethodHandle" ∧ yX4_stageMoment.cls ≠ "java/lang/invoke/VarHandle" ∧ (parseMethodDescriptor yX4_stageMoment.desc).map (fun d => d.parameters.length) = some 3 by decide +kernel) zs_blindC (zs_ob hh10 hfr (show RTg[3]? = some (0, 3, 0, fsX4) from rfl) (zCX4 hKn.1)) (fun U hU hW => ⟨rfl, by rw [hU]; exact hh10.l0, ⟨zKb s U hW.alike hKn, hBQ.alike hW.alike, hLQ.alike hW.alike⟩, by rw [hU]; exact ⟨jfr10, ju10, jdt10, jtm10, jlp10⟩⟩) hh10.2.2.1 hl.1 (Nat.le_of_ble_eq_true rfl) (eX4_scanMoment (61, .invokevirtual 74, 3) (List.mem_of_getElem? (i := 30) rfl)) (fun r11 s11 t11 lo11 g11 f11 l11 => ?_)
    obtain ⟨q11, z11, c11, jb11⟩ := f11
    cases q11
    rw [g11] at c11
    have hh11 : zh_ok D cA RTg ro sz H0 t11.heap lo11 := ⟨z11.1, z11.2.1, l11, z11.2.2.2⟩
    have kp11 := kp10.trans (c11.mono (ms' := rdMq) (by decide))
    generalize hx11 : (x2.1, x8.1, stpF L x10.1 (x8.1) x10.2) = x11 at jb11
    obtain ⟨jfr11, ju11, jdt11, jtm11, jlp11⟩ := jb11
    have uu11 := ju11.2.2
    unfold uOK at uu11
    refine W.eq (g2 := F0 m 64 ls []) rfl ?_
    have hfin : mqF T L x = (x11.1, x11.2.1, x11.2.2) := by rw [← hx11]; first | (simp only [mqF, sgF, stpF, hx2, hx4, hx8, hx10, if_neg dm]; done) | (simp only [mqF, sgF, stpF, hx2, hx4, hx8, hx10, if_neg dm] <;> rfl)
    exact W.vret hx hb hr (fun t ht hW => ⟨rfl, by rw [ht]; exact hh11.l0, by rw [ht]; exact kp11, by rw [ht, hfin]; exact ⟨jfr11, ju11, jdt11, jtm11, jlp11⟩⟩) hh11.2.2.1 (eX4_scanMoment (64, .return_, 1) (List.mem_of_getElem? (i := 31) rfl))
  · have dm : x2.1 1 = 1 := by have h9 : x2.1 1 = 0 ∨ x2.1 1 = 1 := (by rw [← hx2]; exact (dt_db T 1 _).2.1); omega
    refine ff_iconst hx hb (eX4_scanMoment (39, .iconst 1, 1) (List.mem_of_getElem? (i := 18) rfl)) (by decide) (by decide) (fun v12 e12 => ?_)
    refine lv_goto hx hb (eX4_scanMoment (40, .goto 4, 3) (List.mem_of_getElem? (i := 19) rfl)) (tgt := 44) rfl ?_
    refine tz_rowV (As := [.ref tx, .int v12]) (st := []) (b := tm) (C := RX8) (Ts := gT) hx hb hml hown h2 (fun _ h => h) (hX8_scan l D cA ro sz H0 tm tx v12 1 T (x4) (x.2.1) htm htx (by omega)) ⟨rfl, rfl⟩ ⟨by decide, by decide⟩ ⟨by decide, by decide⟩ (tb_5 135 rfl rfl) (tb_1 9 rfl rfl) (tb_5 132 rfl rfl) (tb_5 133 rfl rfl) (tb_5 134 rfl rfl) (show yX8_scan.cls ≠ "java/lang/invoke/MethodHandle" ∧ yX8_scan.cls ≠ "java/lang/invoke/VarHandle" ∧ (parseMethodDescriptor yX8_scan.desc).map (fun d => d.parameters.length) = some 2 by decide +kernel) zs_blind (zs_ob hh4 htm (show RTg[7]? = some (0, 7, 0, fsX8) from rfl) (zCX8 hKn.1)) (fun U hU hW => ⟨rfl, by rw [hU]; exact hh4.l0, zKb s U hW.alike hKn, by rw [hU]; exact ⟨ju4, jtm4⟩⟩) hh4.2.2.1 hl.1 (Nat.le_of_ble_eq_true rfl) (eX4_scanMoment (44, .invokevirtual 89, 3) (List.mem_of_getElem? (i := 21) rfl)) (fun r13 s13 t13 lo13 g13 f13 l13 => ?_)
    obtain ⟨q13, z13, c13, ju13, jtm13, fx13⟩ := f13
    cases q13
    rw [g13] at c13 fx13
    have hh13 : zh_ok D cA RTg ro sz H0 t13.heap lo13 := ⟨z13.1, z13.2.1, l13, z13.2.2.2⟩
    have kp13 := kp4.trans (c13.mono (ms' := rdMq) (by decide))
    generalize hx13 : tmF9 T 1 (x.2.1, x4) = x13 at ju13 jtm13
    have uu13 := ju13.2.2
    unfold uOK at uu13
    have jfr13 := jfr4.kept hfr c13 (by decide)
    have jdt13 := jdt4.kept hdt rfl (by decide) c13 (by decide)
    have jlp13 := jlp4.kept hlp c13 (by decide) (by decide) (by decide)
    refine W.eq (g2 := F0 m 47 ls []) rfl ?_
    refine lv_aload_n hx hb (eX4_scanMoment (47, .aload_n 0, 1) (List.mem_of_getElem? (i := 22) rfl)) rfl (lv_at hl 0 rfl) ?_
    refine lv_iload_n hx hb (eX4_scanMoment (48, .iload_n 1, 1) (List.mem_of_getElem? (i := 23) rfl)) rfl (lv_at hl 1 rfl) ?_
    refine ff_iconst hx hb (eX4_scanMoment (49, .iconst 3, 1) (List.mem_of_getElem? (i := 24) rfl)) (by decide) (by decide) (fun v14 e14 => ?_)
    refine lv_aload_n hx hb (eX4_scanMoment (50, .aload_n 0, 1) (List.mem_of_getElem? (i := 25) rfl)) rfl (lv_at hl 0 rfl) ?_
    refine tz_get (r := 3) (k := 2) (t := (6, 0, 0)) hx hb hh13 hfr rfl rfl (hcl3 12 2 (6, 0, 0) (by decide) rfl).1 jfr13.2.2.1 (eX4_scanMoment (51, .getfield 12, 3) (List.mem_of_getElem? (i := 26) rfl)) ?_
    refine lv_aload_n hx hb (eX4_scanMoment (54, .aload_n 0, 1) (List.mem_of_getElem? (i := 27) rfl)) rfl (lv_at hl 0 rfl) ?_
    refine tz_get (r := 3) (k := 0) (t := (4, 0, 0)) hx hb hh13 hfr rfl rfl (hcl3 36 0 (4, 0, 0) (by decide) rfl).1 jfr13.1 (eX4_scanMoment (55, .getfield 36, 3) (List.mem_of_getElem? (i := 28) rfl)) ?_
    refine tz_rowV (As := [.ref tx]) (st := [.int v14, .int pa, .ref fr]) (b := dt) (C := RX1) (Ts := gT) hx hb hml hown h2 (fun _ h => h) (hX1_settle l D cA ro sz H0 dt tx T (x13.2) (x2.1) hdt htx (by rw [← hx2]; exact (dt_db T 1 _).1) (fun _ => by rw [← hx2]; exact (dt_db T 1 _).2.2)) ⟨rfl, rfl⟩ ⟨by decide, by decide⟩ ⟨by decide, by decide⟩ (tb_5 28 rfl rfl) (tb_1 8 rfl rfl) (tb_5 25 rfl rfl) (tb_5 26 rfl rfl) (tb_5 27 rfl rfl) (show yX1_settle.cls ≠ "java/lang/invoke/MethodHandle" ∧ yX1_settle.cls ≠ "java/lang/invoke/VarHandle" ∧ (parseMethodDescriptor yX1_settle.desc).map (fun d => d.parameters.length) = some 1 by decide +kernel) zs_blindB (zs_ob hh13 hdt (show RTg[1]? = some (0, 1, 0, fsX1) from rfl) (zCX1 hKn.1)) (fun U hU hW => ⟨rfl, by rw [hU]; exact hh13.l0, ⟨zKb s U hW.alike hKn, hBQ.alike hW.alike⟩, by rw [hU]; exact ⟨ju13, jdt13⟩⟩) hh13.2.2.1 hl.1 (Nat.le_of_ble_eq_true rfl) (eX4_scanMoment (58, .invokevirtual 70, 3) (List.mem_of_getElem? (i := 29) rfl)) (fun r15 s15 t15 lo15 g15 f15 l15 => ?_)
    obtain ⟨v15, q15, e15, z15, c15, ju15, fx15⟩ := f15
    cases q15
    rw [g15] at c15 fx15
    have hh15 : zh_ok D cA RTg ro sz H0 t15.heap lo15 := ⟨z15.1, z15.2.1, l15, z15.2.2.2⟩
    have kp15 := kp13.trans (c15.mono (ms' := rdMq) (by decide))
    generalize hx15 : dqF (x2.1) x13.2 = x15 at ju15 e15
    have uu15 := ju15.2.2
    unfold uOK at uu15
    have jfr15 := jfr13.kept hfr c15 (by decide)
    have jdt15 := jdt13.kept hdt rfl (by decide) c15 (by decide)
    have jtm15 := jtm13.kept htm rfl (by decide) c15 (by decide)
    have jlp15 := jlp13.kept hlp c15 (by decide) (by decide) (by decide)
    refine W.eq (g2 := F0 m 61 ls [.long v15, .int v14, .int pa, .ref fr]) rfl ?_
    refine tz_rowV (As := [.int pa, .int v14, .long v15]) (st := []) (b := fr) (C := RX4) (Ts := gT) hx hb hml hown h2 (fun _ h => h) (hX4_stageMoment l D cA ro sz H0 fr pa v14 v15 tx lp dt tm du T L (x2.1, x13.1, x15.2) x15.1 hfr htx hlp hdt htm hdu (by omega) (by rw [← hx15]; exact dq_in (fun _ => by rw [← hx2]; exact ⟨(dt_db T 1 _).1, (dt_db T 1 _).2.2⟩)) (fun _ => by rw [← hx13]; exact tm_tb T _ _)) ⟨rfl, rfl⟩ ⟨by decide, by decide⟩ ⟨by decide, by decide⟩ (tb_5 51 rfl rfl) (tb_1 7 rfl rfl) (tb_5 48 rfl rfl) (tb_5 49 rfl rfl) (tb_5 50 rfl rfl) (show yX4_stageMoment.cls ≠ "java/lang/invoke/MethodHandle" ∧ yX4_stageMoment.cls ≠ "java/lang/invoke/VarHandle" ∧ (parseMethodDescriptor yX4_stageMoment.desc).map (fun d => d.parameters.length) = some 3 by decide +kernel) zs_blindC (zs_ob hh15 hfr (show RTg[3]? = some (0, 3, 0, fsX4) from rfl) (zCX4 hKn.1)) (fun U hU hW => ⟨rfl, by rw [hU]; exact hh15.l0, ⟨zKb s U hW.alike hKn, hBQ.alike hW.alike, hLQ.alike hW.alike⟩, by rw [hU]; exact ⟨jfr15, ju15, jdt15, jtm15, jlp15⟩⟩) hh15.2.2.1 hl.1 (Nat.le_of_ble_eq_true rfl) (eX4_scanMoment (61, .invokevirtual 74, 3) (List.mem_of_getElem? (i := 30) rfl)) (fun r16 s16 t16 lo16 g16 f16 l16 => ?_)
    obtain ⟨q16, z16, c16, jb16⟩ := f16
    cases q16
    rw [g16] at c16
    have hh16 : zh_ok D cA RTg ro sz H0 t16.heap lo16 := ⟨z16.1, z16.2.1, l16, z16.2.2.2⟩
    have kp16 := kp15.trans (c16.mono (ms' := rdMq) (by decide))
    generalize hx16 : (x2.1, x13.1, stpF L x15.1 (x13.1) x15.2) = x16 at jb16
    obtain ⟨jfr16, ju16, jdt16, jtm16, jlp16⟩ := jb16
    have uu16 := ju16.2.2
    unfold uOK at uu16
    refine W.eq (g2 := F0 m 64 ls []) rfl ?_
    have hfin : mqF T L x = (x16.1, x16.2.1, x16.2.2) := by rw [← hx16]; first | (simp only [mqF, sgF, stpF, hx2, hx4, hx13, hx15, if_pos dm]; done) | (simp only [mqF, sgF, stpF, hx2, hx4, hx13, hx15, if_pos dm] <;> rfl)
    exact W.vret hx hb hr (fun t ht hW => ⟨rfl, by rw [ht]; exact hh16.l0, by rw [ht]; exact kp16, by rw [ht, hfin]; exact ⟨jfr16, ju16, jdt16, jtm16, jlp16⟩⟩) hh16.2.2.1 (eX4_scanMoment (64, .return_, 1) (List.mem_of_getElem? (i := 31) rfl))
set_option maxRecDepth 100000 in
set_option maxHeartbeats 4000000 in
theorem hX4_scanStamp (l : Launch) (D : va_G) (cA : Nat → ClassId) (ro : Nat → Option Nat) (sz : Nat) (H0 : Heap) (fr : Nat)  (tx lp dt tm du : Nat) (T L : List Int) (x : mS) (hfr : ro fr = some 3) (htx : ro tx = some 0) (hlp : ro lp = some 4) (hdt : ro dt = some 1) (htm : ro tm = some 7) (hdu : ro du = some 2) : Met l yX4_scanStamp (gW yX4_scanStamp cX4_scanStamp 1 none) { frames := 5, cells := 0, slots := 0, locals := 128 } (zs_PC D cA ro sz H0 (fun H => jRw D cA ro H fr tx lp dt tm du T L x) [.ref fr]) (rd_V D cA ro sz H0 fr tx lp dt tm du T L (sqqF T L x)) 0 0 (zy_fr sz) := by
  refine zy_ofW (cc := cX4_scanStamp) (maxL := 1) (ret := none) (by decide +kernel) rfl ?_
  intro p e s m args below meth c s1 B hml hv
  obtain ⟨rfl, hh, ⟨hKn, hBQ, hLQ⟩, hJ⟩ := hv
  have hx := B.exec
  have hb := B.bytes
  have hr := B.returns
  have hlk := B.notSynchronized
  have hts0 := atoms_spec (ws := gW yX4_scanStamp cX4_scanStamp 1 none) B.pre
  have h2 : ∀ w ∈ gT, w.before ([.ref fr] : List Value).toArray s = true := fun w hw => hts0 w (List.mem_cons_of_mem _ hw)
  have hown : s.vm.findClass RX4 = some m.cls := findClass_of_methodNamed B.named
  have hl := lv_entry [.ref fr] (n := 1) (Nat.le_of_ble_eq_true rfl)
  rw [lg_entry_eq]
  generalize (lg_sl [.ref fr] ++ List.replicate (1 - (lg_sl [.ref fr]).length) Slot.unset).toArray = ls at hl ⊢
  have hD := zD_all h2 hKn.1
  have hcl3 := fun (idx k : Nat) (t : zt_T) (h : (idx, 3, k) ∈ gfX4) (hk : fsX4[k]? = some t) => zf_clause (ro := ro) (ms := rdMq) h2 hown hKn.1 gfX4_ok (by decide +kernel) idx 3 k 3 0 fsX4 t h rfl hk
  have hcl0 := fun (idx k : Nat) (t : zt_T) (h : (idx, 0, k) ∈ gfX4) (hk : fsX0[k]? = some t) => zf_clause (ro := ro) (ms := rdMq) h2 hown hKn.1 gfX4_ok (by decide +kernel) idx 0 k 0 0 fsX0 t h rfl hk
  have hcl1 := fun (idx k : Nat) (t : zt_T) (h : (idx, 1, k) ∈ gfX4) (hk : fsX1[k]? = some t) => zf_clause (ro := ro) (ms := rdMq) h2 hown hKn.1 gfX4_ok (by decide +kernel) idx 1 k 1 0 fsX1 t h rfl hk
  have hcl7 := fun (idx k : Nat) (t : zt_T) (h : (idx, 7, k) ∈ gfX4) (hk : fsX8[k]? = some t) => zf_clause (ro := ro) (ms := rdMq) h2 hown hKn.1 gfX4_ok (by decide +kernel) idx 7 k 7 0 fsX8 t h rfl hk
  have hcl2 := fun (idx k : Nat) (t : zt_T) (h : (idx, 2, k) ∈ gfX4) (hk : fsX3[k]? = some t) => zf_clause (ro := ro) (ms := rdMq) h2 hown hKn.1 gfX4_ok (by decide +kernel) idx 2 k 2 0 fsX3 t h rfl hk
  have kp0 : zc_kept D RTg ro rdMq s.heap s.heap := zc_kept.refl
  obtain ⟨jfr0, ju0, jdt0, jtm0, jlp0⟩ := hJ
  have hu := ju0.2.2
  unfold uOK at hu
  refine lv_aload_n hx hb (eX4_scanStamp (0, .aload_n 0, 1) (List.mem_of_getElem? (i := 0) rfl)) rfl (lv_at hl 0 rfl) ?_
  refine tz_get (r := 3) (k := 2) (t := (6, 0, 0)) hx hb hh hfr rfl rfl (hcl3 12 2 (6, 0, 0) (by decide) rfl).1 jfr0.2.2.1 (eX4_scanStamp (1, .getfield 12, 3) (List.mem_of_getElem? (i := 1) rfl)) ?_
  refine lv_aload_n hx hb (eX4_scanStamp (4, .aload_n 0, 1) (List.mem_of_getElem? (i := 2) rfl)) rfl (lv_at hl 0 rfl) ?_
  refine tz_get (r := 3) (k := 0) (t := (4, 0, 0)) hx hb hh hfr rfl rfl (hcl3 36 0 (4, 0, 0) (by decide) rfl).1 jfr0.1 (eX4_scanStamp (5, .getfield 36, 3) (List.mem_of_getElem? (i := 3) rfl)) ?_
  refine tz_rowV (As := [.ref tx]) (st := []) (b := dt) (C := RX1) (Ts := gT) hx hb hml hown h2 (fun _ h => h) (hX1_scanFull l D cA ro sz H0 dt tx T (x.2.2) (x.1) hdt htx) ⟨rfl, rfl⟩ ⟨by decide, by decide⟩ ⟨by decide, by decide⟩ (tb_4 226 rfl rfl) (tb_1 8 rfl rfl) (tb_4 223 rfl rfl) (tb_4 224 rfl rfl) (tb_4 225 rfl rfl) (show yX1_scanFull.cls ≠ "java/lang/invoke/MethodHandle" ∧ yX1_scanFull.cls ≠ "java/lang/invoke/VarHandle" ∧ (parseMethodDescriptor yX1_scanFull.desc).map (fun d => d.parameters.length) = some 1 by decide +kernel) zs_blind (zs_ob hh hdt (show RTg[1]? = some (0, 1, 0, fsX1) from rfl) (zCX1 hKn.1)) (fun U hU hW => ⟨rfl, by rw [hU]; exact hh.l0, zKb s U hW.alike hKn, by rw [hU]; exact ⟨ju0, jdt0⟩⟩) hh.2.2.1 hl.1 (Nat.le_of_ble_eq_true rfl) (eX4_scanStamp (8, .invokevirtual 57, 3) (List.mem_of_getElem? (i := 4) rfl)) (fun r1 s1 t1 lo1 g1 f1 l1 => ?_)
  obtain ⟨q1, z1, c1, ju1, jdt1, fx1⟩ := f1
  cases q1
  rw [g1] at c1 fx1
  have hh1 : zh_ok D cA RTg ro sz H0 t1.heap lo1 := ⟨z1.1, z1.2.1, l1, z1.2.2.2⟩
  have kp1 := kp0.trans (c1.mono (ms' := rdMq) (by decide))
  generalize hx1 : dfF T (x.1, x.2.2) = x1 at ju1 jdt1
  have uu1 := ju1.2.2
  unfold uOK at uu1
  have jfr1 := jfr0.kept hfr c1 (by decide)
  have jtm1 := jtm0.kept htm rfl (by decide) c1 (by decide)
  have jlp1 := jlp0.kept hlp c1 (by decide) (by decide) (by decide)
  refine W.eq (g2 := F0 m 11 ls []) rfl ?_
  have jn44 : ∀ (gj : uS) (ls : Array Slot) (H : Heap) (lo0 : List Loc), zh_ok D cA RTg ro sz H0 H lo0 → zc_kept D RTg ro rdMq s.heap H → jRw D cA ro H fr tx lp dt tm du T L (x1.1, x.2.1, gj) → sq2F T L (x1.1) (x.2.1) gj = sqqF T L x → lv_has ls 1 [(0, .ref fr)] → W p l e (headSpec (gW yX4_scanStamp cX4_scanStamp 1 none) { frames := 5, cells := 0, slots := 0, locals := 128 }).room s m ([.ref fr] : List Value).toArray below meth c H lo0 0 0 (MQ below (rd_V D cA ro sz H0 fr tx lp dt tm du T L (sqqF T L x)) ([.ref fr] : List Value).toArray s 0 0 (zy_fr sz)) (F0 m 44 ls []) := by
    intro gj ls H lo0 hh0 kpl jb htot hl
    obtain ⟨jfrl, jul, jdtl, jtml, jlpl⟩ := jb
    have hul := jul.2.2
    unfold uOK at hul
    refine lv_aload_n hx hb (eX4_scanStamp (44, .aload_n 0, 1) (List.mem_of_getElem? (i := 19) rfl)) rfl (lv_at hl 0 rfl) ?_
    refine tz_get (r := 3) (k := 3) (t := (18, 0, 0)) hx hb hh0 hfr rfl rfl (hcl3 21 3 (18, 0, 0) (by decide) rfl).1 jfrl.2.2.2.1 (eX4_scanStamp (45, .getfield 21, 3) (List.mem_of_getElem? (i := 20) rfl)) ?_
    refine lv_aload_n hx hb (eX4_scanStamp (48, .aload_n 0, 1) (List.mem_of_getElem? (i := 21) rfl)) rfl (lv_at hl 0 rfl) ?_
    refine tz_get (r := 3) (k := 0) (t := (4, 0, 0)) hx hb hh0 hfr rfl rfl (hcl3 36 0 (4, 0, 0) (by decide) rfl).1 jfrl.1 (eX4_scanStamp (49, .getfield 36, 3) (List.mem_of_getElem? (i := 22) rfl)) ?_
    refine tz_rowV (As := [.ref tx]) (st := []) (b := tm) (C := RX8) (Ts := gT) hx hb hml hown h2 (fun _ h => h) (hX8_scanFull l D cA ro sz H0 tm tx T (gj) (x.2.1) htm htx) ⟨rfl, rfl⟩ ⟨by decide, by decide⟩ ⟨by decide, by decide⟩ (tb_4 234 rfl rfl) (tb_1 9 rfl rfl) (tb_4 231 rfl rfl) (tb_4 232 rfl rfl) (tb_4 233 rfl rfl) (show yX8_scanFull.cls ≠ "java/lang/invoke/MethodHandle" ∧ yX8_scanFull.cls ≠ "java/lang/invoke/VarHandle" ∧ (parseMethodDescriptor yX8_scanFull.desc).map (fun d => d.parameters.length) = some 1 by decide +kernel) zs_blind (zs_ob hh0 htm (show RTg[7]? = some (0, 7, 0, fsX8) from rfl) (zCX8 hKn.1)) (fun U hU hW => ⟨rfl, by rw [hU]; exact hh0.l0, zKb s U hW.alike hKn, by rw [hU]; exact ⟨jul, jtml⟩⟩) hh0.2.2.1 hl.1 (Nat.le_of_ble_eq_true rfl) (eX4_scanStamp (52, .invokevirtual 69, 3) (List.mem_of_getElem? (i := 23) rfl)) (fun r2 s2 t2 lo2 g2 f2 l2 => ?_)
    obtain ⟨q2, z2, c2, ju2, jtm2, fx2⟩ := f2
    cases q2
    rw [g2] at c2 fx2
    have hh2 : zh_ok D cA RTg ro sz H0 t2.heap lo2 := ⟨z2.1, z2.2.1, l2, z2.2.2.2⟩
    have kp2 := kpl.trans (c2.mono (ms' := rdMq) (by decide))
    generalize hx2 : tfF T (x.2.1, gj) = x2 at ju2 jtm2
    have uu2 := ju2.2.2
    unfold uOK at uu2
    have jfr2 := jfrl.kept hfr c2 (by decide)
    have jdt2 := jdtl.kept hdt rfl (by decide) c2 (by decide)
    have jlp2 := jlpl.kept hlp c2 (by decide) (by decide) (by decide)
    refine W.eq (g2 := F0 m 55 ls []) rfl ?_
    refine lv_aload_n hx hb (eX4_scanStamp (55, .aload_n 0, 1) (List.mem_of_getElem? (i := 24) rfl)) rfl (lv_at hl 0 rfl) ?_
    refine ff_iconst hx hb (eX4_scanStamp (56, .iconst 0, 1) (List.mem_of_getElem? (i := 25) rfl)) (by decide) (by decide) (fun v3 e3 => ?_)
    refine ff_iconst hx hb (eX4_scanStamp (57, .iconst 0, 1) (List.mem_of_getElem? (i := 26) rfl)) (by decide) (by decide) (fun v4 e4 => ?_)
    refine lv_aload_n hx hb (eX4_scanStamp (58, .aload_n 0, 1) (List.mem_of_getElem? (i := 27) rfl)) rfl (lv_at hl 0 rfl) ?_
    refine tz_get (r := 3) (k := 2) (t := (6, 0, 0)) hx hb hh2 hfr rfl rfl (hcl3 12 2 (6, 0, 0) (by decide) rfl).1 jfr2.2.2.1 (eX4_scanStamp (59, .getfield 12, 3) (List.mem_of_getElem? (i := 28) rfl)) ?_
    refine lv_aload_n hx hb (eX4_scanStamp (62, .aload_n 0, 1) (List.mem_of_getElem? (i := 29) rfl)) rfl (lv_at hl 0 rfl) ?_
    refine tz_get (r := 3) (k := 0) (t := (4, 0, 0)) hx hb hh2 hfr rfl rfl (hcl3 36 0 (4, 0, 0) (by decide) rfl).1 jfr2.1 (eX4_scanStamp (63, .getfield 36, 3) (List.mem_of_getElem? (i := 30) rfl)) ?_
    refine tz_rowV (As := [.ref tx]) (st := [.int v4, .int v3, .ref fr]) (b := dt) (C := RX1) (Ts := gT) hx hb hml hown h2 (fun _ h => h) (hX1_settle l D cA ro sz H0 dt tx T (x2.2) (x1.1) hdt htx (by rw [← hx1]; exact (df_db T _).1) (fun _ => by rw [← hx1]; exact (df_db T _).2)) ⟨rfl, rfl⟩ ⟨by decide, by decide⟩ ⟨by decide, by decide⟩ (tb_5 28 rfl rfl) (tb_1 8 rfl rfl) (tb_5 25 rfl rfl) (tb_5 26 rfl rfl) (tb_5 27 rfl rfl) (show yX1_settle.cls ≠ "java/lang/invoke/MethodHandle" ∧ yX1_settle.cls ≠ "java/lang/invoke/VarHandle" ∧ (parseMethodDescriptor yX1_settle.desc).map (fun d => d.parameters.length) = some 1 by decide +kernel) zs_blindB (zs_ob hh2 hdt (show RTg[1]? = some (0, 1, 0, fsX1) from rfl) (zCX1 hKn.1)) (fun U hU hW => ⟨rfl, by rw [hU]; exact hh2.l0, ⟨zKb s U hW.alike hKn, hBQ.alike hW.alike⟩, by rw [hU]; exact ⟨ju2, jdt2⟩⟩) hh2.2.2.1 hl.1 (Nat.le_of_ble_eq_true rfl) (eX4_scanStamp (66, .invokevirtual 70, 3) (List.mem_of_getElem? (i := 31) rfl)) (fun r5 s5 t5 lo5 g5 f5 l5 => ?_)
    obtain ⟨v5, q5, e5, z5, c5, ju5, fx5⟩ := f5
    cases q5
    rw [g5] at c5 fx5
    have hh5 : zh_ok D cA RTg ro sz H0 t5.heap lo5 := ⟨z5.1, z5.2.1, l5, z5.2.2.2⟩
    have kp5 := kp2.trans (c5.mono (ms' := rdMq) (by decide))
    generalize hx5 : dqF (x1.1) x2.2 = x5 at ju5 e5
    have uu5 := ju5.2.2
    unfold uOK at uu5
    have jfr5 := jfr2.kept hfr c5 (by decide)
    have jdt5 := jdt2.kept hdt rfl (by decide) c5 (by decide)
    have jtm5 := jtm2.kept htm rfl (by decide) c5 (by decide)
    have jlp5 := jlp2.kept hlp c5 (by decide) (by decide) (by decide)
    refine W.eq (g2 := F0 m 69 ls [.long v5, .int v4, .int v3, .ref fr]) rfl ?_
    refine tz_rowV (As := [.int v3, .int v4, .long v5]) (st := []) (b := fr) (C := RX4) (Ts := gT) hx hb hml hown h2 (fun _ h => h) (hX4_stageMoment l D cA ro sz H0 fr v3 v4 v5 tx lp dt tm du T L (x1.1, x2.1, x5.2) x5.1 hfr htx hlp hdt htm hdu (by omega) (by rw [← hx5]; exact dq_in (fun _ => by rw [← hx1]; exact df_db T _)) (fun _ => by rw [← hx2]; exact tf_tb T _)) ⟨rfl, rfl⟩ ⟨by decide, by decide⟩ ⟨by decide, by decide⟩ (tb_5 51 rfl rfl) (tb_1 7 rfl rfl) (tb_5 48 rfl rfl) (tb_5 49 rfl rfl) (tb_5 50 rfl rfl) (show yX4_stageMoment.cls ≠ "java/lang/invoke/MethodHandle" ∧ yX4_stageMoment.cls ≠ "java/lang/invoke/VarHandle" ∧ (parseMethodDescriptor yX4_stageMoment.desc).map (fun d => d.parameters.length) = some 3 by decide +kernel) zs_blindC (zs_ob hh5 hfr (show RTg[3]? = some (0, 3, 0, fsX4) from rfl) (zCX4 hKn.1)) (fun U hU hW => ⟨rfl, by rw [hU]; exact hh5.l0, ⟨zKb s U hW.alike hKn, hBQ.alike hW.alike, hLQ.alike hW.alike⟩, by rw [hU]; exact ⟨jfr5, ju5, jdt5, jtm5, jlp5⟩⟩) hh5.2.2.1 hl.1 (Nat.le_of_ble_eq_true rfl) (eX4_scanStamp (69, .invokevirtual 74, 3) (List.mem_of_getElem? (i := 32) rfl)) (fun r6 s6 t6 lo6 g6 f6 l6 => ?_)
    obtain ⟨q6, z6, c6, jb6⟩ := f6
    cases q6
    rw [g6] at c6
    have hh6 : zh_ok D cA RTg ro sz H0 t6.heap lo6 := ⟨z6.1, z6.2.1, l6, z6.2.2.2⟩
    have kp6 := kp5.trans (c6.mono (ms' := rdMq) (by decide))
    generalize hx6 : (x1.1, x2.1, stpF L x5.1 (x2.1) x5.2) = x6 at jb6
    obtain ⟨jfr6, ju6, jdt6, jtm6, jlp6⟩ := jb6
    have uu6 := ju6.2.2
    unfold uOK at uu6
    refine W.eq (g2 := F0 m 72 ls []) rfl ?_
    have hfin : sqqF T L x = (x6.1, x6.2.1, x6.2.2) := by rw [← htot, ← hx6]; first | (simp only [sq2F, sgF, stpF, hx2, hx5]; done) | (simp only [sq2F, sgF, stpF, hx2, hx5] <;> rfl)
    exact W.vret hx hb hr (fun t ht hW => ⟨rfl, by rw [ht]; exact hh6.l0, by rw [ht]; exact kp6, by rw [ht, hfin]; exact ⟨jfr6, ju6, jdt6, jtm6, jlp6⟩⟩) hh6.2.2.1 (eX4_scanStamp (72, .return_, 1) (List.mem_of_getElem? (i := 33) rfl))
  refine lv_aload_n hx hb (eX4_scanStamp (11, .aload_n 0, 1) (List.mem_of_getElem? (i := 5) rfl)) rfl (lv_at hl 0 rfl) ?_
  refine tz_get (r := 3) (k := 0) (t := (4, 0, 0)) hx hb hh1 hfr rfl rfl (hcl3 36 0 (4, 0, 0) (by decide) rfl).1 jfr1.1 (eX4_scanStamp (12, .getfield 36, 3) (List.mem_of_getElem? (i := 6) rfl)) ?_
  refine ff_bipush hx hb (eX4_scanStamp (15, .bipush 84, 2) (List.mem_of_getElem? (i := 7) rfl)) (by decide) (by decide) (fun v7 e7 => ?_)
  refine tz_rowV (As := [.int v7]) (st := []) (b := tx) (C := RX0) (Ts := gT) hx hb hml hown h2 (fun _ h => h) (hX0_take l D cA ro sz H0 tx v7 84 T (x1.2) htx (by omega) (by decide)) ⟨rfl, rfl⟩ ⟨by decide, by decide⟩ ⟨by decide, by decide⟩ (tb_4 8 rfl rfl) (tb_1 5 rfl rfl) (tb_4 229 rfl rfl) (tb_4 6 rfl rfl) (tb_4 7 rfl rfl) (show yX0_take.cls ≠ "java/lang/invoke/MethodHandle" ∧ yX0_take.cls ≠ "java/lang/invoke/VarHandle" ∧ (parseMethodDescriptor yX0_take.desc).map (fun d => d.parameters.length) = some 1 by decide +kernel) zs_blind (zs_ob hh1 htx (show RTg[0]? = some (0, 0, 0, fsX0) from rfl) (zCX0 hKn.1)) (fun U hU hW => ⟨rfl, by rw [hU]; exact hh1.l0, zKb s U hW.alike hKn, by rw [hU]; exact ju1⟩) hh1.2.2.1 hl.1 (Nat.le_of_ble_eq_true rfl) (eX4_scanStamp (17, .invokevirtual 61, 3) (List.mem_of_getElem? (i := 8) rfl)) (fun r8 s8 t8 lo8 g8 f8 l8 => ?_)
  obtain ⟨v8, q8, e8, z8, c8, ju8, fx8⟩ := f8
  cases q8
  rw [g8] at c8 fx8
  have hh8 : zh_ok D cA RTg ro sz H0 t8.heap lo8 := ⟨z8.1, z8.2.1, l8, z8.2.2.2⟩
  have kp8 := kp1.trans (c8.mono (ms' := rdMq) (by decide))
  have kf8 := tkF_01 T 84 x1.2
  generalize hx8 : tkF T 84 x1.2 = x8 at ju8 e8 kf8
  have uu8 := ju8.2.2
  unfold uOK at uu8
  have jfr8 := jfr1.kept hfr c8 (by decide)
  have jdt8 := jdt1.kept hdt rfl (by decide) c8 (by decide)
  have jtm8 := jtm1.kept htm rfl (by decide) c8 (by decide)
  have jlp8 := jlp1.kept hlp c8 (by decide) (by decide) (by decide)
  refine W.eq (g2 := F0 m 20 ls [.int v8]) rfl ?_
  refine ff_if_ne hx hb (eX4_scanStamp (20, .ifCond .ne 24, 3) (List.mem_of_getElem? (i := 9) rfl)) (tgt := 44) rfl (fun c9 => ?_) (fun c9 => ?_)
  · skip
    have d8 : x8.1 = 1 := by omega
    exact jn44 x8.2 ls _ _ hh8 kp8 ⟨jfr8, ju8, jdt8, jtm8, jlp8⟩ (by first | (simp only [sqqF, spq, hx1, hx8, if_pos d8, up_eq]; done) | (simp only [sqqF, spq, hx1, hx8, if_pos d8, up_eq] <;> rfl) | rfl) (lv_sub hl [0] rfl)
  · skip
    have d8 : ¬ x8.1 = 1 := by omega
    refine lv_aload_n hx hb (eX4_scanStamp (23, .aload_n 0, 1) (List.mem_of_getElem? (i := 10) rfl)) rfl (lv_at hl 0 rfl) ?_
    refine tz_get (r := 3) (k := 0) (t := (4, 0, 0)) hx hb hh8 hfr rfl rfl (hcl3 36 0 (4, 0, 0) (by decide) rfl).1 jfr8.1 (eX4_scanStamp (24, .getfield 36, 3) (List.mem_of_getElem? (i := 11) rfl)) ?_
    refine ff_bipush hx hb (eX4_scanStamp (27, .bipush 116, 2) (List.mem_of_getElem? (i := 12) rfl)) (by decide) (by decide) (fun v10 e10 => ?_)
    refine tz_rowV (As := [.int v10]) (st := []) (b := tx) (C := RX0) (Ts := gT) hx hb hml hown h2 (fun _ h => h) (hX0_take l D cA ro sz H0 tx v10 116 T (x8.2) htx (by omega) (by decide)) ⟨rfl, rfl⟩ ⟨by decide, by decide⟩ ⟨by decide, by decide⟩ (tb_4 8 rfl rfl) (tb_1 5 rfl rfl) (tb_4 229 rfl rfl) (tb_4 6 rfl rfl) (tb_4 7 rfl rfl) (show yX0_take.cls ≠ "java/lang/invoke/MethodHandle" ∧ yX0_take.cls ≠ "java/lang/invoke/VarHandle" ∧ (parseMethodDescriptor yX0_take.desc).map (fun d => d.parameters.length) = some 1 by decide +kernel) zs_blind (zs_ob hh8 htx (show RTg[0]? = some (0, 0, 0, fsX0) from rfl) (zCX0 hKn.1)) (fun U hU hW => ⟨rfl, by rw [hU]; exact hh8.l0, zKb s U hW.alike hKn, by rw [hU]; exact ju8⟩) hh8.2.2.1 hl.1 (Nat.le_of_ble_eq_true rfl) (eX4_scanStamp (29, .invokevirtual 61, 3) (List.mem_of_getElem? (i := 13) rfl)) (fun r11 s11 t11 lo11 g11 f11 l11 => ?_)
    obtain ⟨v11, q11, e11, z11, c11, ju11, fx11⟩ := f11
    cases q11
    rw [g11] at c11 fx11
    have hh11 : zh_ok D cA RTg ro sz H0 t11.heap lo11 := ⟨z11.1, z11.2.1, l11, z11.2.2.2⟩
    have kp11 := kp8.trans (c11.mono (ms' := rdMq) (by decide))
    have kf11 := tkF_01 T 116 x8.2
    generalize hx11 : tkF T 116 x8.2 = x11 at ju11 e11 kf11
    have uu11 := ju11.2.2
    unfold uOK at uu11
    have jfr11 := jfr8.kept hfr c11 (by decide)
    have jdt11 := jdt8.kept hdt rfl (by decide) c11 (by decide)
    have jtm11 := jtm8.kept htm rfl (by decide) c11 (by decide)
    have jlp11 := jlp8.kept hlp c11 (by decide) (by decide) (by decide)
    refine W.eq (g2 := F0 m 32 ls [.int v11]) rfl ?_
    refine ff_if_ne hx hb (eX4_scanStamp (32, .ifCond .ne 12, 3) (List.mem_of_getElem? (i := 14) rfl)) (tgt := 44) rfl (fun c12 => ?_) (fun c12 => ?_)
    · skip
      have d11 : x11.1 = 1 := by omega
      exact jn44 x11.2 ls _ _ hh11 kp11 ⟨jfr11, ju11, jdt11, jtm11, jlp11⟩ (by first | (simp only [sqqF, spq, hx1, hx8, hx11, if_neg d8, if_pos d11, up_eq]; done) | (simp only [sqqF, spq, hx1, hx8, hx11, if_neg d8, if_pos d11, up_eq] <;> rfl) | rfl) (lv_sub hl [0] rfl)
    · skip
      have d11 : ¬ x11.1 = 1 := by omega
      refine lv_aload_n hx hb (eX4_scanStamp (35, .aload_n 0, 1) (List.mem_of_getElem? (i := 15) rfl)) rfl (lv_at hl 0 rfl) ?_
      refine tz_get (r := 3) (k := 0) (t := (4, 0, 0)) hx hb hh11 hfr rfl rfl (hcl3 36 0 (4, 0, 0) (by decide) rfl).1 jfr11.1 (eX4_scanStamp (36, .getfield 36, 3) (List.mem_of_getElem? (i := 16) rfl)) ?_
      refine ff_bipush hx hb (eX4_scanStamp (39, .bipush 32, 2) (List.mem_of_getElem? (i := 17) rfl)) (by decide) (by decide) (fun v13 e13 => ?_)
      refine tz_rowV (As := [.int v13]) (st := []) (b := tx) (C := RX0) (Ts := gT) hx hb hml hown h2 (fun _ h => h) (hX0_need l D cA ro sz H0 tx v13 32 T (x11.2) htx (by omega) (by decide)) ⟨rfl, rfl⟩ ⟨by decide, by decide⟩ ⟨by decide, by decide⟩ (tb_4 44 rfl rfl) (tb_1 5 rfl rfl) (tb_4 230 rfl rfl) (tb_4 42 rfl rfl) (tb_4 43 rfl rfl) (show yX0_need.cls ≠ "java/lang/invoke/MethodHandle" ∧ yX0_need.cls ≠ "java/lang/invoke/VarHandle" ∧ (parseMethodDescriptor yX0_need.desc).map (fun d => d.parameters.length) = some 1 by decide +kernel) zs_blind (zs_ob hh11 htx (show RTg[0]? = some (0, 0, 0, fsX0) from rfl) (zCX0 hKn.1)) (fun U hU hW => ⟨rfl, by rw [hU]; exact hh11.l0, zKb s U hW.alike hKn, by rw [hU]; exact ju11⟩) hh11.2.2.1 hl.1 (Nat.le_of_ble_eq_true rfl) (eX4_scanStamp (41, .invokevirtual 65, 3) (List.mem_of_getElem? (i := 18) rfl)) (fun r14 s14 t14 lo14 g14 f14 l14 => ?_)
      obtain ⟨q14, z14, c14, ju14, fx14⟩ := f14
      cases q14
      rw [g14] at c14 fx14
      have hh14 : zh_ok D cA RTg ro sz H0 t14.heap lo14 := ⟨z14.1, z14.2.1, l14, z14.2.2.2⟩
      have kp14 := kp11.trans (c14.mono (ms' := rdMq) (by decide))
      generalize hx14 : ndF T 32 x11.2 = x14 at ju14
      have uu14 := ju14.2.2
      unfold uOK at uu14
      have jfr14 := jfr11.kept hfr c14 (by decide)
      have jdt14 := jdt11.kept hdt rfl (by decide) c14 (by decide)
      have jtm14 := jtm11.kept htm rfl (by decide) c14 (by decide)
      have jlp14 := jlp11.kept hlp c14 (by decide) (by decide) (by decide)
      refine W.eq (g2 := F0 m 44 ls []) rfl ?_
      exact jn44 x14 ls _ _ hh14 kp14 ⟨jfr14, ju14, jdt14, jtm14, jlp14⟩ (by first | (simp only [sqqF, spq, hx1, hx8, hx11, hx14, if_neg d8, if_neg d11, up_eq]; done) | (simp only [sqqF, spq, hx1, hx8, hx11, hx14, if_neg d8, if_neg d11, up_eq] <;> rfl) | rfl) (lv_sub hl [0] rfl)
set_option maxRecDepth 100000 in
set_option maxHeartbeats 4000000 in
theorem hX4_scanDuration (l : Launch) (D : va_G) (cA : Nat → ClassId) (ro : Nat → Option Nat) (sz : Nat) (H0 : Heap) (fr : Nat) (pa : Int32) (tx lp dt tm du : Nat) (T L : List Int) (x : mS) (hfr : ro fr = some 3) (htx : ro tx = some 0) (hlp : ro lp = some 4) (hdt : ro dt = some 1) (htm : ro tm = some 7) (hdu : ro du = some 2) : Met l yX4_scanDuration (gW yX4_scanDuration cX4_scanDuration 2 none) { frames := 5, cells := 0, slots := 0, locals := 116 } (zs_PC D cA ro sz H0 (fun H => jRw D cA ro H fr tx lp dt tm du T L x) [.ref fr, .int pa]) (rd_V D cA ro sz H0 fr tx lp dt tm du T L ((x.1, x.2.1, duF T x.2.2))) 0 0 (zy_fr sz) := by
  refine zy_ofW (cc := cX4_scanDuration) (maxL := 2) (ret := none) (by decide +kernel) rfl ?_
  intro p e s m args below meth c s1 B hml hv
  obtain ⟨rfl, hh, ⟨hKn, hBQ, hLQ⟩, hJ⟩ := hv
  have hx := B.exec
  have hb := B.bytes
  have hr := B.returns
  have hlk := B.notSynchronized
  have hts0 := atoms_spec (ws := gW yX4_scanDuration cX4_scanDuration 2 none) B.pre
  have h2 : ∀ w ∈ gT, w.before ([.ref fr, .int pa] : List Value).toArray s = true := fun w hw => hts0 w (List.mem_cons_of_mem _ hw)
  have hown : s.vm.findClass RX4 = some m.cls := findClass_of_methodNamed B.named
  have hl := lv_entry [.ref fr, .int pa] (n := 2) (Nat.le_of_ble_eq_true rfl)
  rw [lg_entry_eq]
  generalize (lg_sl [.ref fr, .int pa] ++ List.replicate (2 - (lg_sl [.ref fr, .int pa]).length) Slot.unset).toArray = ls at hl ⊢
  have b_pa := zn_i32 pa
  have hD := zD_all h2 hKn.1
  have hcl3 := fun (idx k : Nat) (t : zt_T) (h : (idx, 3, k) ∈ gfX4) (hk : fsX4[k]? = some t) => zf_clause (ro := ro) (ms := rdMq) h2 hown hKn.1 gfX4_ok (by decide +kernel) idx 3 k 3 0 fsX4 t h rfl hk
  have hcl0 := fun (idx k : Nat) (t : zt_T) (h : (idx, 0, k) ∈ gfX4) (hk : fsX0[k]? = some t) => zf_clause (ro := ro) (ms := rdMq) h2 hown hKn.1 gfX4_ok (by decide +kernel) idx 0 k 0 0 fsX0 t h rfl hk
  have hcl1 := fun (idx k : Nat) (t : zt_T) (h : (idx, 1, k) ∈ gfX4) (hk : fsX1[k]? = some t) => zf_clause (ro := ro) (ms := rdMq) h2 hown hKn.1 gfX4_ok (by decide +kernel) idx 1 k 1 0 fsX1 t h rfl hk
  have hcl7 := fun (idx k : Nat) (t : zt_T) (h : (idx, 7, k) ∈ gfX4) (hk : fsX8[k]? = some t) => zf_clause (ro := ro) (ms := rdMq) h2 hown hKn.1 gfX4_ok (by decide +kernel) idx 7 k 7 0 fsX8 t h rfl hk
  have hcl2 := fun (idx k : Nat) (t : zt_T) (h : (idx, 2, k) ∈ gfX4) (hk : fsX3[k]? = some t) => zf_clause (ro := ro) (ms := rdMq) h2 hown hKn.1 gfX4_ok (by decide +kernel) idx 2 k 2 0 fsX3 t h rfl hk
  have kp0 : zc_kept D RTg ro rdMq s.heap s.heap := zc_kept.refl
  obtain ⟨jfr0, ju0, jdt0, jtm0, jlp0⟩ := hJ
  have hu := ju0.2.2
  unfold uOK at hu
  refine lv_aload_n hx hb (eX4_scanDuration (0, .aload_n 0, 1) (List.mem_of_getElem? (i := 0) rfl)) rfl (lv_at hl 0 rfl) ?_
  refine tz_get (r := 3) (k := 4) (t := (8, 0, 0)) hx hb hh hfr rfl rfl (hcl3 28 4 (8, 0, 0) (by decide) rfl).1 jfr0.2.2.2.2 (eX4_scanDuration (1, .getfield 28, 3) (List.mem_of_getElem? (i := 1) rfl)) ?_
  refine lv_aload_n hx hb (eX4_scanDuration (4, .aload_n 0, 1) (List.mem_of_getElem? (i := 2) rfl)) rfl (lv_at hl 0 rfl) ?_
  refine tz_get (r := 3) (k := 0) (t := (4, 0, 0)) hx hb hh hfr rfl rfl (hcl3 36 0 (4, 0, 0) (by decide) rfl).1 jfr0.1 (eX4_scanDuration (5, .getfield 36, 3) (List.mem_of_getElem? (i := 3) rfl)) ?_
  refine tz_rowV (As := [.ref tx]) (st := []) (b := du) (C := RX3) (Ts := gT) hx hb hml hown h2 (fun _ h => h) (hX3_scan l D cA ro sz H0 du tx T (x.2.2) hdu htx) ⟨rfl, rfl⟩ ⟨by decide, by decide⟩ ⟨by decide, by decide⟩ (tb_5 148 rfl rfl) (tb_1 10 rfl rfl) (tb_5 145 rfl rfl) (tb_5 146 rfl rfl) (tb_5 147 rfl rfl) (show yX3_scan.cls ≠ "java/lang/invoke/MethodHandle" ∧ yX3_scan.cls ≠ "java/lang/invoke/VarHandle" ∧ (parseMethodDescriptor yX3_scan.desc).map (fun d => d.parameters.length) = some 1 by decide +kernel) zs_blindC (zs_ob hh hdu (show RTg[2]? = some (0, 2, 0, fsX3) from rfl) (zCX3 hKn.1)) (fun U hU hW => ⟨rfl, by rw [hU]; exact hh.l0, ⟨zKb s U hW.alike hKn, hBQ.alike hW.alike, hLQ.alike hW.alike⟩, by rw [hU]; exact ju0⟩) hh.2.2.1 hl.1 (Nat.le_of_ble_eq_true rfl) (eX4_scanDuration (8, .invokevirtual 99, 3) (List.mem_of_getElem? (i := 4) rfl)) (fun r1 s1 t1 lo1 g1 f1 l1 => ?_)
  obtain ⟨q1, z1, c1, ju1⟩ := f1
  cases q1
  rw [g1] at c1
  have hh1 : zh_ok D cA RTg ro sz H0 t1.heap lo1 := ⟨z1.1, z1.2.1, l1, z1.2.2.2⟩
  have kp1 := kp0.trans (c1.mono (ms' := rdMq) (by decide))
  generalize hx1 : duF T x.2.2 = x1 at ju1
  have uu1 := ju1.2.2
  unfold uOK at uu1
  have jfr1 := jfr0.kept hfr c1 (by decide)
  have jdt1 := jdt0.kept hdt rfl (by decide) c1 (by decide)
  have jtm1 := jtm0.kept htm rfl (by decide) c1 (by decide)
  have jlp1 := jlp0.kept hlp c1 (by decide) (by decide) (by decide)
  refine W.eq (g2 := F0 m 11 ls []) rfl ?_
  refine lv_aload_n hx hb (eX4_scanDuration (11, .aload_n 0, 1) (List.mem_of_getElem? (i := 5) rfl)) rfl (lv_at hl 0 rfl) ?_
  refine lv_iload_n hx hb (eX4_scanDuration (12, .iload_n 1, 1) (List.mem_of_getElem? (i := 6) rfl)) rfl (lv_at hl 1 rfl) ?_
  refine ff_iconst hx hb (eX4_scanDuration (13, .iconst 0, 1) (List.mem_of_getElem? (i := 7) rfl)) (by decide) (by decide) (fun v2 e2 => ?_)
  refine ff_ldc2 (n := 4) hx hb hown h2 (clX4_ok 101 4 (List.mem_of_getElem? (i := 1) rfl)) (eX4_scanDuration (14, .ldc2_w 101, 3) (List.mem_of_getElem? (i := 8) rfl)) (fun v3 e3 => ?_)
  refine tz_rowV (As := [.int pa, .int v2, .long v3]) (st := []) (b := fr) (C := RX4) (Ts := gT) hx hb hml hown h2 (fun _ h => h) (ty_V (J := fun _ => True) (vs := [.ref fr, .int pa, .int v2, .long v3]) (ms := [(17, 0)]) (mX4_put l D cA ro sz H0) (ty_pre ⟨Or.inr ⟨_, rfl, hfr⟩, ty_i _, ty_i _, ty_l _, trivial⟩ rfl rfl) rfl rfl) ⟨rfl, rfl⟩ ⟨by decide, by decide⟩ ⟨by decide, by decide⟩ (tb_5 82 rfl rfl) (tb_1 7 rfl rfl) (tb_5 79 rfl rfl) (tb_5 80 rfl rfl) (tb_5 81 rfl rfl) (show yX4_put.cls ≠ "java/lang/invoke/MethodHandle" ∧ yX4_put.cls ≠ "java/lang/invoke/VarHandle" ∧ (parseMethodDescriptor yX4_put.desc).map (fun d => d.parameters.length) = some 3 by decide +kernel) zs_blind (zs_ob hh1 hfr (show RTg[3]? = some (0, 3, 0, fsX4) from rfl) (zCX4 hKn.1)) (fun U hU hW => ⟨rfl, by rw [hU]; exact hh1.l0, zKb s U hW.alike hKn, by rw [hU]; exact trivial⟩) hh1.2.2.1 hl.1 (Nat.le_of_ble_eq_true rfl) (eX4_scanDuration (17, .invokevirtual 82, 3) (List.mem_of_getElem? (i := 9) rfl)) (fun r4 s4 t4 lo4 g4 f4 l4 => ?_)
  obtain ⟨q4, z4, c4⟩ := f4
  cases q4
  rw [g4] at c4
  have hh4 : zh_ok D cA RTg ro sz H0 t4.heap lo4 := ⟨z4.1, z4.2.1, l4, z4.2.2.2⟩
  have kp4 := kp1.trans (c4.mono (ms' := rdMq) (by decide))
  have jfr4 := jfr1.kept hfr c4 (by decide)
  have ju4 := ju1.kept htx c4 (by decide)
  have jdt4 := jdt1.kept hdt rfl (by decide) c4 (by decide)
  have jtm4 := jtm1.kept htm rfl (by decide) c4 (by decide)
  have jlp4 := jlp1.kept hlp c4 (by decide) (by decide) (by decide)
  refine W.eq (g2 := F0 m 20 ls []) rfl ?_
  refine lv_aload_n hx hb (eX4_scanDuration (20, .aload_n 0, 1) (List.mem_of_getElem? (i := 10) rfl)) rfl (lv_at hl 0 rfl) ?_
  refine lv_iload_n hx hb (eX4_scanDuration (21, .iload_n 1, 1) (List.mem_of_getElem? (i := 11) rfl)) rfl (lv_at hl 1 rfl) ?_
  refine ff_bipush hx hb (eX4_scanDuration (22, .bipush 9, 2) (List.mem_of_getElem? (i := 12) rfl)) (by decide) (by decide) (fun v5 e5 => ?_)
  refine lv_aload_n hx hb (eX4_scanDuration (24, .aload_n 0, 1) (List.mem_of_getElem? (i := 13) rfl)) rfl (lv_at hl 0 rfl) ?_
  refine tz_get (r := 3) (k := 4) (t := (8, 0, 0)) hx hb hh4 hfr rfl rfl (hcl3 28 4 (8, 0, 0) (by decide) rfl).1 jfr4.2.2.2.2 (eX4_scanDuration (25, .getfield 28, 3) (List.mem_of_getElem? (i := 14) rfl)) ?_
  obtain ⟨v6, fa6, e6, eb6⟩ := zh_fT (k := 0) (t := (1, (-9223372036854775808), 9223372036854775807)) hh4 hdu (show RTg[2]? = some (0, 2, 0, fsX3) from rfl) rfl
  dsimp only at e6 eb6
  refine tz_get (r := 2) (k := 0) (t := (1, (-9223372036854775808), 9223372036854775807)) hx hb hh4 hdu rfl rfl (hcl2 103 0 (1, (-9223372036854775808), 9223372036854775807) (by decide) rfl).1 fa6 (eX4_scanDuration (28, .getfield 103, 3) (List.mem_of_getElem? (i := 15) rfl)) ?_
  refine tz_rowV (As := [.int pa, .int v5, .long v6]) (st := []) (b := fr) (C := RX4) (Ts := gT) hx hb hml hown h2 (fun _ h => h) (ty_V (J := fun _ => True) (vs := [.ref fr, .int pa, .int v5, .long v6]) (ms := [(17, 0)]) (mX4_put l D cA ro sz H0) (ty_pre ⟨Or.inr ⟨_, rfl, hfr⟩, ty_i _, ty_i _, ty_l _, trivial⟩ rfl rfl) rfl rfl) ⟨rfl, rfl⟩ ⟨by decide, by decide⟩ ⟨by decide, by decide⟩ (tb_5 82 rfl rfl) (tb_1 7 rfl rfl) (tb_5 79 rfl rfl) (tb_5 80 rfl rfl) (tb_5 81 rfl rfl) (show yX4_put.cls ≠ "java/lang/invoke/MethodHandle" ∧ yX4_put.cls ≠ "java/lang/invoke/VarHandle" ∧ (parseMethodDescriptor yX4_put.desc).map (fun d => d.parameters.length) = some 3 by decide +kernel) zs_blind (zs_ob hh4 hfr (show RTg[3]? = some (0, 3, 0, fsX4) from rfl) (zCX4 hKn.1)) (fun U hU hW => ⟨rfl, by rw [hU]; exact hh4.l0, zKb s U hW.alike hKn, by rw [hU]; exact trivial⟩) hh4.2.2.1 hl.1 (Nat.le_of_ble_eq_true rfl) (eX4_scanDuration (31, .invokevirtual 82, 3) (List.mem_of_getElem? (i := 16) rfl)) (fun r7 s7 t7 lo7 g7 f7 l7 => ?_)
  obtain ⟨q7, z7, c7⟩ := f7
  cases q7
  rw [g7] at c7
  have hh7 : zh_ok D cA RTg ro sz H0 t7.heap lo7 := ⟨z7.1, z7.2.1, l7, z7.2.2.2⟩
  have kp7 := kp4.trans (c7.mono (ms' := rdMq) (by decide))
  have jfr7 := jfr4.kept hfr c7 (by decide)
  have ju7 := ju4.kept htx c7 (by decide)
  have jdt7 := jdt4.kept hdt rfl (by decide) c7 (by decide)
  have jtm7 := jtm4.kept htm rfl (by decide) c7 (by decide)
  have jlp7 := jlp4.kept hlp c7 (by decide) (by decide) (by decide)
  refine W.eq (g2 := F0 m 34 ls []) rfl ?_
  refine lv_aload_n hx hb (eX4_scanDuration (34, .aload_n 0, 1) (List.mem_of_getElem? (i := 17) rfl)) rfl (lv_at hl 0 rfl) ?_
  refine lv_iload_n hx hb (eX4_scanDuration (35, .iload_n 1, 1) (List.mem_of_getElem? (i := 18) rfl)) rfl (lv_at hl 1 rfl) ?_
  refine ff_bipush hx hb (eX4_scanDuration (36, .bipush 10, 2) (List.mem_of_getElem? (i := 19) rfl)) (by decide) (by decide) (fun v8 e8 => ?_)
  refine lv_aload_n hx hb (eX4_scanDuration (38, .aload_n 0, 1) (List.mem_of_getElem? (i := 20) rfl)) rfl (lv_at hl 0 rfl) ?_
  refine tz_get (r := 3) (k := 4) (t := (8, 0, 0)) hx hb hh7 hfr rfl rfl (hcl3 28 4 (8, 0, 0) (by decide) rfl).1 jfr7.2.2.2.2 (eX4_scanDuration (39, .getfield 28, 3) (List.mem_of_getElem? (i := 21) rfl)) ?_
  obtain ⟨v9, fa9, e9, eb9⟩ := zh_fT (k := 1) (t := (1, (-9223372036854775808), 9223372036854775807)) hh7 hdu (show RTg[2]? = some (0, 2, 0, fsX3) from rfl) rfl
  dsimp only at e9 eb9
  refine tz_get (r := 2) (k := 1) (t := (1, (-9223372036854775808), 9223372036854775807)) hx hb hh7 hdu rfl rfl (hcl2 107 1 (1, (-9223372036854775808), 9223372036854775807) (by decide) rfl).1 fa9 (eX4_scanDuration (42, .getfield 107, 3) (List.mem_of_getElem? (i := 22) rfl)) ?_
  refine tz_rowV (As := [.int pa, .int v8, .long v9]) (st := []) (b := fr) (C := RX4) (Ts := gT) hx hb hml hown h2 (fun _ h => h) (ty_V (J := fun _ => True) (vs := [.ref fr, .int pa, .int v8, .long v9]) (ms := [(17, 0)]) (mX4_put l D cA ro sz H0) (ty_pre ⟨Or.inr ⟨_, rfl, hfr⟩, ty_i _, ty_i _, ty_l _, trivial⟩ rfl rfl) rfl rfl) ⟨rfl, rfl⟩ ⟨by decide, by decide⟩ ⟨by decide, by decide⟩ (tb_5 82 rfl rfl) (tb_1 7 rfl rfl) (tb_5 79 rfl rfl) (tb_5 80 rfl rfl) (tb_5 81 rfl rfl) (show yX4_put.cls ≠ "java/lang/invoke/MethodHandle" ∧ yX4_put.cls ≠ "java/lang/invoke/VarHandle" ∧ (parseMethodDescriptor yX4_put.desc).map (fun d => d.parameters.length) = some 3 by decide +kernel) zs_blind (zs_ob hh7 hfr (show RTg[3]? = some (0, 3, 0, fsX4) from rfl) (zCX4 hKn.1)) (fun U hU hW => ⟨rfl, by rw [hU]; exact hh7.l0, zKb s U hW.alike hKn, by rw [hU]; exact trivial⟩) hh7.2.2.1 hl.1 (Nat.le_of_ble_eq_true rfl) (eX4_scanDuration (45, .invokevirtual 82, 3) (List.mem_of_getElem? (i := 23) rfl)) (fun r10 s10 t10 lo10 g10 f10 l10 => ?_)
  obtain ⟨q10, z10, c10⟩ := f10
  cases q10
  rw [g10] at c10
  have hh10 : zh_ok D cA RTg ro sz H0 t10.heap lo10 := ⟨z10.1, z10.2.1, l10, z10.2.2.2⟩
  have kp10 := kp7.trans (c10.mono (ms' := rdMq) (by decide))
  have jfr10 := jfr7.kept hfr c10 (by decide)
  have ju10 := ju7.kept htx c10 (by decide)
  have jdt10 := jdt7.kept hdt rfl (by decide) c10 (by decide)
  have jtm10 := jtm7.kept htm rfl (by decide) c10 (by decide)
  have jlp10 := jlp7.kept hlp c10 (by decide) (by decide) (by decide)
  refine W.eq (g2 := F0 m 48 ls []) rfl ?_
  refine lv_aload_n hx hb (eX4_scanDuration (48, .aload_n 0, 1) (List.mem_of_getElem? (i := 24) rfl)) rfl (lv_at hl 0 rfl) ?_
  refine lv_iload_n hx hb (eX4_scanDuration (49, .iload_n 1, 1) (List.mem_of_getElem? (i := 25) rfl)) rfl (lv_at hl 1 rfl) ?_
  refine ff_bipush hx hb (eX4_scanDuration (50, .bipush 11, 2) (List.mem_of_getElem? (i := 26) rfl)) (by decide) (by decide) (fun v11 e11 => ?_)
  refine lv_aload_n hx hb (eX4_scanDuration (52, .aload_n 0, 1) (List.mem_of_getElem? (i := 27) rfl)) rfl (lv_at hl 0 rfl) ?_
  refine tz_get (r := 3) (k := 4) (t := (8, 0, 0)) hx hb hh10 hfr rfl rfl (hcl3 28 4 (8, 0, 0) (by decide) rfl).1 jfr10.2.2.2.2 (eX4_scanDuration (53, .getfield 28, 3) (List.mem_of_getElem? (i := 28) rfl)) ?_
  obtain ⟨v12, fa12, e12, eb12⟩ := zh_fT (k := 2) (t := (1, (-9223372036854775808), 9223372036854775807)) hh10 hdu (show RTg[2]? = some (0, 2, 0, fsX3) from rfl) rfl
  dsimp only at e12 eb12
  refine tz_get (r := 2) (k := 2) (t := (1, (-9223372036854775808), 9223372036854775807)) hx hb hh10 hdu rfl rfl (hcl2 110 2 (1, (-9223372036854775808), 9223372036854775807) (by decide) rfl).1 fa12 (eX4_scanDuration (56, .getfield 110, 3) (List.mem_of_getElem? (i := 29) rfl)) ?_
  refine tz_rowV (As := [.int pa, .int v11, .long v12]) (st := []) (b := fr) (C := RX4) (Ts := gT) hx hb hml hown h2 (fun _ h => h) (ty_V (J := fun _ => True) (vs := [.ref fr, .int pa, .int v11, .long v12]) (ms := [(17, 0)]) (mX4_put l D cA ro sz H0) (ty_pre ⟨Or.inr ⟨_, rfl, hfr⟩, ty_i _, ty_i _, ty_l _, trivial⟩ rfl rfl) rfl rfl) ⟨rfl, rfl⟩ ⟨by decide, by decide⟩ ⟨by decide, by decide⟩ (tb_5 82 rfl rfl) (tb_1 7 rfl rfl) (tb_5 79 rfl rfl) (tb_5 80 rfl rfl) (tb_5 81 rfl rfl) (show yX4_put.cls ≠ "java/lang/invoke/MethodHandle" ∧ yX4_put.cls ≠ "java/lang/invoke/VarHandle" ∧ (parseMethodDescriptor yX4_put.desc).map (fun d => d.parameters.length) = some 3 by decide +kernel) zs_blind (zs_ob hh10 hfr (show RTg[3]? = some (0, 3, 0, fsX4) from rfl) (zCX4 hKn.1)) (fun U hU hW => ⟨rfl, by rw [hU]; exact hh10.l0, zKb s U hW.alike hKn, by rw [hU]; exact trivial⟩) hh10.2.2.1 hl.1 (Nat.le_of_ble_eq_true rfl) (eX4_scanDuration (59, .invokevirtual 82, 3) (List.mem_of_getElem? (i := 30) rfl)) (fun r13 s13 t13 lo13 g13 f13 l13 => ?_)
  obtain ⟨q13, z13, c13⟩ := f13
  cases q13
  rw [g13] at c13
  have hh13 : zh_ok D cA RTg ro sz H0 t13.heap lo13 := ⟨z13.1, z13.2.1, l13, z13.2.2.2⟩
  have kp13 := kp10.trans (c13.mono (ms' := rdMq) (by decide))
  have jfr13 := jfr10.kept hfr c13 (by decide)
  have ju13 := ju10.kept htx c13 (by decide)
  have jdt13 := jdt10.kept hdt rfl (by decide) c13 (by decide)
  have jtm13 := jtm10.kept htm rfl (by decide) c13 (by decide)
  have jlp13 := jlp10.kept hlp c13 (by decide) (by decide) (by decide)
  refine W.eq (g2 := F0 m 62 ls []) rfl ?_
  refine lv_aload_n hx hb (eX4_scanDuration (62, .aload_n 0, 1) (List.mem_of_getElem? (i := 31) rfl)) rfl (lv_at hl 0 rfl) ?_
  refine lv_iload_n hx hb (eX4_scanDuration (63, .iload_n 1, 1) (List.mem_of_getElem? (i := 32) rfl)) rfl (lv_at hl 1 rfl) ?_
  refine ff_bipush hx hb (eX4_scanDuration (64, .bipush 12, 2) (List.mem_of_getElem? (i := 33) rfl)) (by decide) (by decide) (fun v14 e14 => ?_)
  refine lv_aload_n hx hb (eX4_scanDuration (66, .aload_n 0, 1) (List.mem_of_getElem? (i := 34) rfl)) rfl (lv_at hl 0 rfl) ?_
  refine tz_get (r := 3) (k := 4) (t := (8, 0, 0)) hx hb hh13 hfr rfl rfl (hcl3 28 4 (8, 0, 0) (by decide) rfl).1 jfr13.2.2.2.2 (eX4_scanDuration (67, .getfield 28, 3) (List.mem_of_getElem? (i := 35) rfl)) ?_
  obtain ⟨v15, fa15, e15, eb15⟩ := zh_fT (k := 3) (t := (1, (-9223372036854775808), 9223372036854775807)) hh13 hdu (show RTg[2]? = some (0, 2, 0, fsX3) from rfl) rfl
  dsimp only at e15 eb15
  refine tz_get (r := 2) (k := 3) (t := (1, (-9223372036854775808), 9223372036854775807)) hx hb hh13 hdu rfl rfl (hcl2 113 3 (1, (-9223372036854775808), 9223372036854775807) (by decide) rfl).1 fa15 (eX4_scanDuration (70, .getfield 113, 3) (List.mem_of_getElem? (i := 36) rfl)) ?_
  refine tz_rowV (As := [.int pa, .int v14, .long v15]) (st := []) (b := fr) (C := RX4) (Ts := gT) hx hb hml hown h2 (fun _ h => h) (ty_V (J := fun _ => True) (vs := [.ref fr, .int pa, .int v14, .long v15]) (ms := [(17, 0)]) (mX4_put l D cA ro sz H0) (ty_pre ⟨Or.inr ⟨_, rfl, hfr⟩, ty_i _, ty_i _, ty_l _, trivial⟩ rfl rfl) rfl rfl) ⟨rfl, rfl⟩ ⟨by decide, by decide⟩ ⟨by decide, by decide⟩ (tb_5 82 rfl rfl) (tb_1 7 rfl rfl) (tb_5 79 rfl rfl) (tb_5 80 rfl rfl) (tb_5 81 rfl rfl) (show yX4_put.cls ≠ "java/lang/invoke/MethodHandle" ∧ yX4_put.cls ≠ "java/lang/invoke/VarHandle" ∧ (parseMethodDescriptor yX4_put.desc).map (fun d => d.parameters.length) = some 3 by decide +kernel) zs_blind (zs_ob hh13 hfr (show RTg[3]? = some (0, 3, 0, fsX4) from rfl) (zCX4 hKn.1)) (fun U hU hW => ⟨rfl, by rw [hU]; exact hh13.l0, zKb s U hW.alike hKn, by rw [hU]; exact trivial⟩) hh13.2.2.1 hl.1 (Nat.le_of_ble_eq_true rfl) (eX4_scanDuration (73, .invokevirtual 82, 3) (List.mem_of_getElem? (i := 37) rfl)) (fun r16 s16 t16 lo16 g16 f16 l16 => ?_)
  obtain ⟨q16, z16, c16⟩ := f16
  cases q16
  rw [g16] at c16
  have hh16 : zh_ok D cA RTg ro sz H0 t16.heap lo16 := ⟨z16.1, z16.2.1, l16, z16.2.2.2⟩
  have kp16 := kp13.trans (c16.mono (ms' := rdMq) (by decide))
  have jfr16 := jfr13.kept hfr c16 (by decide)
  have ju16 := ju13.kept htx c16 (by decide)
  have jdt16 := jdt13.kept hdt rfl (by decide) c16 (by decide)
  have jtm16 := jtm13.kept htm rfl (by decide) c16 (by decide)
  have jlp16 := jlp13.kept hlp c16 (by decide) (by decide) (by decide)
  refine W.eq (g2 := F0 m 76 ls []) rfl ?_
  have hfin : (x.1, x.2.1, duF T x.2.2) = (x.1, x.2.1, x1) := by first | (simp only [hx1, up_eq]; done) | (simp only [hx1, up_eq] <;> rfl) | rfl
  exact W.vret hx hb hr (fun t ht hW => ⟨rfl, by rw [ht]; exact hh16.l0, by rw [ht]; exact kp16, by rw [ht]; first | (rw [hfin]; exact ⟨jfr16, ju16, jdt16, jtm16, jlp16⟩) | exact ⟨jfr16, ju16, jdt16, jtm16, jlp16⟩⟩) hh16.2.2.1 (eX4_scanDuration (76, .return_, 1) (List.mem_of_getElem? (i := 38) rfl))
set_option maxRecDepth 100000 in
set_option maxHeartbeats 4000000 in
theorem hX4_scanInterval (l : Launch) (D : va_G) (cA : Nat → ClassId) (ro : Nat → Option Nat) (sz : Nat) (H0 : Heap) (fr : Nat)  (tx lp dt tm du : Nat) (T L : List Int) (x : mS) (hfr : ro fr = some 3) (htx : ro tx = some 0) (hlp : ro lp = some 4) (hdt : ro dt = some 1) (htm : ro tm = some 7) (hdu : ro du = some 2) : Met l yX4_scanInterval (gW yX4_scanInterval cX4_scanInterval 2 none) { frames := 6, cells := 0, slots := 0, locals := 149 } (zs_PC D cA ro sz H0 (fun H => jRw D cA ro H fr tx lp dt tm du T L x) [.ref fr]) (rd_V D cA ro sz H0 fr tx lp dt tm du T L (iqF T L x)) 0 0 (zy_fr sz) := by
  refine zy_ofW (cc := cX4_scanInterval) (maxL := 2) (ret := none) (by decide +kernel) rfl ?_
  intro p e s m args below meth c s1 B hml hv
  obtain ⟨rfl, hh, ⟨hKn, hBQ, hLQ⟩, hJ⟩ := hv
  have hx := B.exec
  have hb := B.bytes
  have hr := B.returns
  have hlk := B.notSynchronized
  have hts0 := atoms_spec (ws := gW yX4_scanInterval cX4_scanInterval 2 none) B.pre
  have h2 : ∀ w ∈ gT, w.before ([.ref fr] : List Value).toArray s = true := fun w hw => hts0 w (List.mem_cons_of_mem _ hw)
  have hown : s.vm.findClass RX4 = some m.cls := findClass_of_methodNamed B.named
  have hl := lv_entry [.ref fr] (n := 2) (Nat.le_of_ble_eq_true rfl)
  rw [lg_entry_eq]
  generalize (lg_sl [.ref fr] ++ List.replicate (2 - (lg_sl [.ref fr]).length) Slot.unset).toArray = ls at hl ⊢
  have hD := zD_all h2 hKn.1
  have hcl3 := fun (idx k : Nat) (t : zt_T) (h : (idx, 3, k) ∈ gfX4) (hk : fsX4[k]? = some t) => zf_clause (ro := ro) (ms := rdMq) h2 hown hKn.1 gfX4_ok (by decide +kernel) idx 3 k 3 0 fsX4 t h rfl hk
  have hcl0 := fun (idx k : Nat) (t : zt_T) (h : (idx, 0, k) ∈ gfX4) (hk : fsX0[k]? = some t) => zf_clause (ro := ro) (ms := rdMq) h2 hown hKn.1 gfX4_ok (by decide +kernel) idx 0 k 0 0 fsX0 t h rfl hk
  have hcl1 := fun (idx k : Nat) (t : zt_T) (h : (idx, 1, k) ∈ gfX4) (hk : fsX1[k]? = some t) => zf_clause (ro := ro) (ms := rdMq) h2 hown hKn.1 gfX4_ok (by decide +kernel) idx 1 k 1 0 fsX1 t h rfl hk
  have hcl7 := fun (idx k : Nat) (t : zt_T) (h : (idx, 7, k) ∈ gfX4) (hk : fsX8[k]? = some t) => zf_clause (ro := ro) (ms := rdMq) h2 hown hKn.1 gfX4_ok (by decide +kernel) idx 7 k 7 0 fsX8 t h rfl hk
  have hcl2 := fun (idx k : Nat) (t : zt_T) (h : (idx, 2, k) ∈ gfX4) (hk : fsX3[k]? = some t) => zf_clause (ro := ro) (ms := rdMq) h2 hown hKn.1 gfX4_ok (by decide +kernel) idx 2 k 2 0 fsX3 t h rfl hk
  have kp0 : zc_kept D RTg ro rdMq s.heap s.heap := zc_kept.refl
  obtain ⟨jfr0, ju0, jdt0, jtm0, jlp0⟩ := hJ
  have hu := ju0.2.2
  unfold uOK at hu
  refine lv_aload_n hx hb (eX4_scanInterval (0, .aload_n 0, 1) (List.mem_of_getElem? (i := 0) rfl)) rfl (lv_at hl 0 rfl) ?_
  refine tz_get (r := 3) (k := 0) (t := (4, 0, 0)) hx hb hh hfr rfl rfl (hcl3 36 0 (4, 0, 0) (by decide) rfl).1 jfr0.1 (eX4_scanInterval (1, .getfield 36, 3) (List.mem_of_getElem? (i := 1) rfl)) ?_
  refine ff_bipush hx hb (eX4_scanInterval (4, .bipush 80, 2) (List.mem_of_getElem? (i := 2) rfl)) (by decide) (by decide) (fun v1 e1 => ?_)
  refine tz_rowV (As := [.int v1]) (st := []) (b := tx) (C := RX0) (Ts := gT) hx hb hml hown h2 (fun _ h => h) (hX0_isAt l D cA ro sz H0 tx v1 80 T (x.2.2) htx (by omega)) ⟨rfl, rfl⟩ ⟨by decide, by decide⟩ ⟨by decide, by decide⟩ (tb_4 32 rfl rfl) (tb_1 5 rfl rfl) (tb_5 175 rfl rfl) (tb_4 30 rfl rfl) (tb_4 31 rfl rfl) (show yX0_isAt.cls ≠ "java/lang/invoke/MethodHandle" ∧ yX0_isAt.cls ≠ "java/lang/invoke/VarHandle" ∧ (parseMethodDescriptor yX0_isAt.desc).map (fun d => d.parameters.length) = some 1 by decide +kernel) zs_blind (zs_ob hh htx (show RTg[0]? = some (0, 0, 0, fsX0) from rfl) (zCX0 hKn.1)) (fun U hU hW => ⟨rfl, by rw [hU]; exact hh.l0, zKb s U hW.alike hKn, by rw [hU]; exact ju0⟩) hh.2.2.1 hl.1 (Nat.le_of_ble_eq_true rfl) (eX4_scanInterval (6, .invokevirtual 116, 3) (List.mem_of_getElem? (i := 3) rfl)) (fun r2 s2 t2 lo2 g2 f2 l2 => ?_)
  obtain ⟨z2, v2, q2, e2⟩ := f2
  cases q2
  rw [z2, g2]
  have hh2 : zh_ok D cA RTg ro sz H0 s.heap lo2 := ⟨hh.1, hh.2.1, l2, hh.2.2.2⟩
  refine W.eq (g2 := F0 m 9 ls [.int v2]) rfl ?_
  refine lv_istore_n hx hb (eX4_scanInterval (9, .istore_n 1, 1) (List.mem_of_getElem? (i := 4) rfl)) rfl hl (by decide) rfl (fun ls3 hl3 => ?_)
  refine lv_iload_n hx hb (eX4_scanInterval (10, .iload_n 1, 1) (List.mem_of_getElem? (i := 5) rfl)) rfl (lv_at hl3 0 rfl) ?_
  refine ff_if_eq hx hb (eX4_scanInterval (11, .ifCond .eq 11, 3) (List.mem_of_getElem? (i := 6) rfl)) (tgt := 22) rfl (fun c4 => ?_) (fun c4 => ?_)
  · have dp : ¬ lk T x.2.2 = 80 := by omega
    refine lv_aload_n hx hb (eX4_scanInterval (22, .aload_n 0, 1) (List.mem_of_getElem? (i := 11) rfl)) rfl (lv_at hl3 1 rfl) ?_
    refine ff_iconst hx hb (eX4_scanInterval (23, .iconst 0, 1) (List.mem_of_getElem? (i := 12) rfl)) (by decide) (by decide) (fun v5 e5 => ?_)
    refine tz_rowV (As := [.int v5]) (st := []) (b := fr) (C := RX4) (Ts := gT) hx hb hml hown h2 (fun _ h => h) (hX4_scanMoment l D cA ro sz H0 fr v5 tx lp dt tm du T L (x.1, x.2.1, x.2.2)  hfr htx hlp hdt htm hdu ) ⟨rfl, rfl⟩ ⟨by decide, by decide⟩ ⟨by decide, by decide⟩ (tb_5 140 rfl rfl) (tb_1 7 rfl rfl) (tb_5 177 rfl rfl) (tb_5 138 rfl rfl) (tb_5 139 rfl rfl) (show yX4_scanMoment.cls ≠ "java/lang/invoke/MethodHandle" ∧ yX4_scanMoment.cls ≠ "java/lang/invoke/VarHandle" ∧ (parseMethodDescriptor yX4_scanMoment.desc).map (fun d => d.parameters.length) = some 1 by decide +kernel) zs_blindC (zs_ob hh2 hfr (show RTg[3]? = some (0, 3, 0, fsX4) from rfl) (zCX4 hKn.1)) (fun U hU hW => ⟨rfl, by rw [hU]; exact hh2.l0, ⟨zKb s U hW.alike hKn, hBQ.alike hW.alike, hLQ.alike hW.alike⟩, by rw [hU]; exact ⟨jfr0, ju0, jdt0, jtm0, jlp0⟩⟩) hh2.2.2.1 hl3.1 (Nat.le_of_ble_eq_true rfl) (eX4_scanInterval (24, .invokevirtual 122, 3) (List.mem_of_getElem? (i := 13) rfl)) (fun r6 s6 t6 lo6 g6 f6 l6 => ?_)
    obtain ⟨q6, z6, c6, jb6⟩ := f6
    cases q6
    rw [g6] at c6
    have hh6 : zh_ok D cA RTg ro sz H0 t6.heap lo6 := ⟨z6.1, z6.2.1, l6, z6.2.2.2⟩
    have kp6 := kp0.trans (c6.mono (ms' := rdMq) (by decide))
    generalize hx6 : mqF T L (x.1, x.2.1, x.2.2) = x6 at jb6
    obtain ⟨jfr6, ju6, jdt6, jtm6, jlp6⟩ := jb6
    have uu6 := ju6.2.2
    unfold uOK at uu6
    refine W.eq (g2 := F0 m 27 ls3 []) rfl ?_
    refine lv_aload_n hx hb (eX4_scanInterval (27, .aload_n 0, 1) (List.mem_of_getElem? (i := 14) rfl)) rfl (lv_at hl3 1 rfl) ?_
    refine tz_get (r := 3) (k := 0) (t := (4, 0, 0)) hx hb hh6 hfr rfl rfl (hcl3 36 0 (4, 0, 0) (by decide) rfl).1 jfr6.1 (eX4_scanInterval (28, .getfield 36, 3) (List.mem_of_getElem? (i := 15) rfl)) ?_
    refine ff_bipush hx hb (eX4_scanInterval (31, .bipush 47, 2) (List.mem_of_getElem? (i := 16) rfl)) (by decide) (by decide) (fun v7 e7 => ?_)
    refine tz_rowV (As := [.int v7]) (st := []) (b := tx) (C := RX0) (Ts := gT) hx hb hml hown h2 (fun _ h => h) (hX0_need l D cA ro sz H0 tx v7 47 T (x6.2.2) htx (by omega) (by decide)) ⟨rfl, rfl⟩ ⟨by decide, by decide⟩ ⟨by decide, by decide⟩ (tb_4 44 rfl rfl) (tb_1 5 rfl rfl) (tb_4 230 rfl rfl) (tb_4 42 rfl rfl) (tb_4 43 rfl rfl) (show yX0_need.cls ≠ "java/lang/invoke/MethodHandle" ∧ yX0_need.cls ≠ "java/lang/invoke/VarHandle" ∧ (parseMethodDescriptor yX0_need.desc).map (fun d => d.parameters.length) = some 1 by decide +kernel) zs_blind (zs_ob hh6 htx (show RTg[0]? = some (0, 0, 0, fsX0) from rfl) (zCX0 hKn.1)) (fun U hU hW => ⟨rfl, by rw [hU]; exact hh6.l0, zKb s U hW.alike hKn, by rw [hU]; exact ju6⟩) hh6.2.2.1 hl3.1 (Nat.le_of_ble_eq_true rfl) (eX4_scanInterval (33, .invokevirtual 65, 3) (List.mem_of_getElem? (i := 17) rfl)) (fun r8 s8 t8 lo8 g8 f8 l8 => ?_)
    obtain ⟨q8, z8, c8, ju8, fx8⟩ := f8
    cases q8
    rw [g8] at c8 fx8
    have hh8 : zh_ok D cA RTg ro sz H0 t8.heap lo8 := ⟨z8.1, z8.2.1, l8, z8.2.2.2⟩
    have kp8 := kp6.trans (c8.mono (ms' := rdMq) (by decide))
    generalize hx8 : ndF T 47 x6.2.2 = x8 at ju8
    have uu8 := ju8.2.2
    unfold uOK at uu8
    have jfr8 := jfr6.kept hfr c8 (by decide)
    have jdt8 := jdt6.kept hdt rfl (by decide) c8 (by decide)
    have jtm8 := jtm6.kept htm rfl (by decide) c8 (by decide)
    have jlp8 := jlp6.kept hlp c8 (by decide) (by decide) (by decide)
    refine W.eq (g2 := F0 m 36 ls3 []) rfl ?_
    refine lv_iload_n hx hb (eX4_scanInterval (36, .iload_n 1, 1) (List.mem_of_getElem? (i := 18) rfl)) rfl (lv_at hl3 0 rfl) ?_
    refine ff_if_ne hx hb (eX4_scanInterval (37, .ifCond .ne 23, 3) (List.mem_of_getElem? (i := 19) rfl)) (tgt := 60) rfl (fun c9 => (by exfalso; omega)) (fun c9 => ?_)
    refine lv_aload_n hx hb (eX4_scanInterval (40, .aload_n 0, 1) (List.mem_of_getElem? (i := 20) rfl)) rfl (lv_at hl3 1 rfl) ?_
    refine tz_get (r := 3) (k := 0) (t := (4, 0, 0)) hx hb hh8 hfr rfl rfl (hcl3 36 0 (4, 0, 0) (by decide) rfl).1 jfr8.1 (eX4_scanInterval (41, .getfield 36, 3) (List.mem_of_getElem? (i := 21) rfl)) ?_
    refine ff_bipush hx hb (eX4_scanInterval (44, .bipush 80, 2) (List.mem_of_getElem? (i := 22) rfl)) (by decide) (by decide) (fun v10 e10 => ?_)
    refine tz_rowV (As := [.int v10]) (st := []) (b := tx) (C := RX0) (Ts := gT) hx hb hml hown h2 (fun _ h => h) (hX0_isAt l D cA ro sz H0 tx v10 80 T (x8) htx (by omega)) ⟨rfl, rfl⟩ ⟨by decide, by decide⟩ ⟨by decide, by decide⟩ (tb_4 32 rfl rfl) (tb_1 5 rfl rfl) (tb_5 175 rfl rfl) (tb_4 30 rfl rfl) (tb_4 31 rfl rfl) (show yX0_isAt.cls ≠ "java/lang/invoke/MethodHandle" ∧ yX0_isAt.cls ≠ "java/lang/invoke/VarHandle" ∧ (parseMethodDescriptor yX0_isAt.desc).map (fun d => d.parameters.length) = some 1 by decide +kernel) zs_blind (zs_ob hh8 htx (show RTg[0]? = some (0, 0, 0, fsX0) from rfl) (zCX0 hKn.1)) (fun U hU hW => ⟨rfl, by rw [hU]; exact hh8.l0, zKb s U hW.alike hKn, by rw [hU]; exact ju8⟩) hh8.2.2.1 hl3.1 (Nat.le_of_ble_eq_true rfl) (eX4_scanInterval (46, .invokevirtual 116, 3) (List.mem_of_getElem? (i := 23) rfl)) (fun r11 s11 t11 lo11 g11 f11 l11 => ?_)
    obtain ⟨z11, v11, q11, e11⟩ := f11
    cases q11
    rw [z11, g11]
    have hh11 : zh_ok D cA RTg ro sz H0 t8.heap lo11 := ⟨hh8.1, hh8.2.1, l11, hh8.2.2.2⟩
    refine W.eq (g2 := F0 m 49 ls3 [.int v11]) rfl ?_
    refine ff_if_eq hx hb (eX4_scanInterval (49, .ifCond .eq 11, 3) (List.mem_of_getElem? (i := 24) rfl)) (tgt := 60) rfl (fun c12 => ?_) (fun c12 => ?_)
    · skip
      have d13 : ¬ lk T x8 = 80 := by omega
      refine lv_aload_n hx hb (eX4_scanInterval (60, .aload_n 0, 1) (List.mem_of_getElem? (i := 29) rfl)) rfl (lv_at hl3 1 rfl) ?_
      refine ff_iconst hx hb (eX4_scanInterval (61, .iconst 1, 1) (List.mem_of_getElem? (i := 30) rfl)) (by decide) (by decide) (fun v14 e14 => ?_)
      refine tz_rowV (As := [.int v14]) (st := []) (b := fr) (C := RX4) (Ts := gT) hx hb hml hown h2 (fun _ h => h) (hX4_scanMoment l D cA ro sz H0 fr v14 tx lp dt tm du T L (x6.1, x6.2.1, x8)  hfr htx hlp hdt htm hdu ) ⟨rfl, rfl⟩ ⟨by decide, by decide⟩ ⟨by decide, by decide⟩ (tb_5 140 rfl rfl) (tb_1 7 rfl rfl) (tb_5 177 rfl rfl) (tb_5 138 rfl rfl) (tb_5 139 rfl rfl) (show yX4_scanMoment.cls ≠ "java/lang/invoke/MethodHandle" ∧ yX4_scanMoment.cls ≠ "java/lang/invoke/VarHandle" ∧ (parseMethodDescriptor yX4_scanMoment.desc).map (fun d => d.parameters.length) = some 1 by decide +kernel) zs_blindC (zs_ob hh11 hfr (show RTg[3]? = some (0, 3, 0, fsX4) from rfl) (zCX4 hKn.1)) (fun U hU hW => ⟨rfl, by rw [hU]; exact hh11.l0, ⟨zKb s U hW.alike hKn, hBQ.alike hW.alike, hLQ.alike hW.alike⟩, by rw [hU]; exact ⟨jfr8, ju8, jdt8, jtm8, jlp8⟩⟩) hh11.2.2.1 hl3.1 (Nat.le_of_ble_eq_true rfl) (eX4_scanInterval (62, .invokevirtual 122, 3) (List.mem_of_getElem? (i := 31) rfl)) (fun r15 s15 t15 lo15 g15 f15 l15 => ?_)
      obtain ⟨q15, z15, c15, jb15⟩ := f15
      cases q15
      rw [g15] at c15
      have hh15 : zh_ok D cA RTg ro sz H0 t15.heap lo15 := ⟨z15.1, z15.2.1, l15, z15.2.2.2⟩
      have kp15 := kp8.trans (c15.mono (ms' := rdMq) (by decide))
      generalize hx15 : mqF T L (x6.1, x6.2.1, x8) = x15 at jb15
      obtain ⟨jfr15, ju15, jdt15, jtm15, jlp15⟩ := jb15
      have uu15 := ju15.2.2
      unfold uOK at uu15
      refine W.eq (g2 := F0 m 65 ls3 []) rfl ?_
      have hfin : iqF T L x = (x15.1, x15.2.1, x15.2.2) := by first | (simp only [iqF, hx6, hx8, hx15, if_neg dp, if_neg d13, up_eq]; done) | (simp only [iqF, hx6, hx8, hx15, if_neg dp, if_neg d13, up_eq] <;> rfl) | rfl
      exact W.vret hx hb hr (fun t ht hW => ⟨rfl, by rw [ht]; exact hh15.l0, by rw [ht]; exact kp15, by rw [ht, hfin]; exact ⟨jfr15, ju15, jdt15, jtm15, jlp15⟩⟩) hh15.2.2.1 (eX4_scanInterval (65, .return_, 1) (List.mem_of_getElem? (i := 32) rfl))
    · skip
      have d16 : lk T x8 = 80 := by omega
      refine lv_aload_n hx hb (eX4_scanInterval (52, .aload_n 0, 1) (List.mem_of_getElem? (i := 25) rfl)) rfl (lv_at hl3 1 rfl) ?_
      refine ff_iconst hx hb (eX4_scanInterval (53, .iconst 1, 1) (List.mem_of_getElem? (i := 26) rfl)) (by decide) (by decide) (fun v17 e17 => ?_)
      refine tz_rowV (As := [.int v17]) (st := []) (b := fr) (C := RX4) (Ts := gT) hx hb hml hown h2 (fun _ h => h) (hX4_scanDuration l D cA ro sz H0 fr v17 tx lp dt tm du T L (x6.1, x6.2.1, x8)  hfr htx hlp hdt htm hdu ) ⟨rfl, rfl⟩ ⟨by decide, by decide⟩ ⟨by decide, by decide⟩ (tb_5 144 rfl rfl) (tb_1 7 rfl rfl) (tb_5 176 rfl rfl) (tb_5 142 rfl rfl) (tb_5 143 rfl rfl) (show yX4_scanDuration.cls ≠ "java/lang/invoke/MethodHandle" ∧ yX4_scanDuration.cls ≠ "java/lang/invoke/VarHandle" ∧ (parseMethodDescriptor yX4_scanDuration.desc).map (fun d => d.parameters.length) = some 1 by decide +kernel) zs_blindC (zs_ob hh11 hfr (show RTg[3]? = some (0, 3, 0, fsX4) from rfl) (zCX4 hKn.1)) (fun U hU hW => ⟨rfl, by rw [hU]; exact hh11.l0, ⟨zKb s U hW.alike hKn, hBQ.alike hW.alike, hLQ.alike hW.alike⟩, by rw [hU]; exact ⟨jfr8, ju8, jdt8, jtm8, jlp8⟩⟩) hh11.2.2.1 hl3.1 (Nat.le_of_ble_eq_true rfl) (eX4_scanInterval (54, .invokevirtual 119, 3) (List.mem_of_getElem? (i := 27) rfl)) (fun r18 s18 t18 lo18 g18 f18 l18 => ?_)
      obtain ⟨q18, z18, c18, jb18⟩ := f18
      cases q18
      rw [g18] at c18
      have hh18 : zh_ok D cA RTg ro sz H0 t18.heap lo18 := ⟨z18.1, z18.2.1, l18, z18.2.2.2⟩
      have kp18 := kp8.trans (c18.mono (ms' := rdMq) (by decide))
      generalize hx18 : (x6.1, x6.2.1, duF T x8) = x18 at jb18
      obtain ⟨jfr18, ju18, jdt18, jtm18, jlp18⟩ := jb18
      have uu18 := ju18.2.2
      unfold uOK at uu18
      refine W.eq (g2 := F0 m 57 ls3 []) rfl ?_
      refine lv_goto hx hb (eX4_scanInterval (57, .goto 8, 3) (List.mem_of_getElem? (i := 28) rfl)) (tgt := 65) rfl ?_
      have hfin : iqF T L x = (x18.1, x18.2.1, x18.2.2) := by first | (simp only [iqF, hx6, hx8, hx18, if_neg dp, if_pos d16, up_eq]; done) | (simp only [iqF, hx6, hx8, hx18, if_neg dp, if_pos d16, up_eq] <;> rfl) | rfl
      exact W.vret hx hb hr (fun t ht hW => ⟨rfl, by rw [ht]; exact hh18.l0, by rw [ht]; exact kp18, by rw [ht, hfin]; exact ⟨jfr18, ju18, jdt18, jtm18, jlp18⟩⟩) hh18.2.2.1 (eX4_scanInterval (65, .return_, 1) (List.mem_of_getElem? (i := 32) rfl))
  · have dp : lk T x.2.2 = 80 := by omega
    refine lv_aload_n hx hb (eX4_scanInterval (14, .aload_n 0, 1) (List.mem_of_getElem? (i := 7) rfl)) rfl (lv_at hl3 1 rfl) ?_
    refine ff_iconst hx hb (eX4_scanInterval (15, .iconst 0, 1) (List.mem_of_getElem? (i := 8) rfl)) (by decide) (by decide) (fun v19 e19 => ?_)
    refine tz_rowV (As := [.int v19]) (st := []) (b := fr) (C := RX4) (Ts := gT) hx hb hml hown h2 (fun _ h => h) (hX4_scanDuration l D cA ro sz H0 fr v19 tx lp dt tm du T L (x.1, x.2.1, x.2.2)  hfr htx hlp hdt htm hdu ) ⟨rfl, rfl⟩ ⟨by decide, by decide⟩ ⟨by decide, by decide⟩ (tb_5 144 rfl rfl) (tb_1 7 rfl rfl) (tb_5 176 rfl rfl) (tb_5 142 rfl rfl) (tb_5 143 rfl rfl) (show yX4_scanDuration.cls ≠ "java/lang/invoke/MethodHandle" ∧ yX4_scanDuration.cls ≠ "java/lang/invoke/VarHandle" ∧ (parseMethodDescriptor yX4_scanDuration.desc).map (fun d => d.parameters.length) = some 1 by decide +kernel) zs_blindC (zs_ob hh2 hfr (show RTg[3]? = some (0, 3, 0, fsX4) from rfl) (zCX4 hKn.1)) (fun U hU hW => ⟨rfl, by rw [hU]; exact hh2.l0, ⟨zKb s U hW.alike hKn, hBQ.alike hW.alike, hLQ.alike hW.alike⟩, by rw [hU]; exact ⟨jfr0, ju0, jdt0, jtm0, jlp0⟩⟩) hh2.2.2.1 hl3.1 (Nat.le_of_ble_eq_true rfl) (eX4_scanInterval (16, .invokevirtual 119, 3) (List.mem_of_getElem? (i := 9) rfl)) (fun r20 s20 t20 lo20 g20 f20 l20 => ?_)
    obtain ⟨q20, z20, c20, jb20⟩ := f20
    cases q20
    rw [g20] at c20
    have hh20 : zh_ok D cA RTg ro sz H0 t20.heap lo20 := ⟨z20.1, z20.2.1, l20, z20.2.2.2⟩
    have kp20 := kp0.trans (c20.mono (ms' := rdMq) (by decide))
    generalize hx20 : (x.1, x.2.1, duF T x.2.2) = x20 at jb20
    obtain ⟨jfr20, ju20, jdt20, jtm20, jlp20⟩ := jb20
    have uu20 := ju20.2.2
    unfold uOK at uu20
    refine W.eq (g2 := F0 m 19 ls3 []) rfl ?_
    refine lv_goto hx hb (eX4_scanInterval (19, .goto 8, 3) (List.mem_of_getElem? (i := 10) rfl)) (tgt := 27) rfl ?_
    refine lv_aload_n hx hb (eX4_scanInterval (27, .aload_n 0, 1) (List.mem_of_getElem? (i := 14) rfl)) rfl (lv_at hl3 1 rfl) ?_
    refine tz_get (r := 3) (k := 0) (t := (4, 0, 0)) hx hb hh20 hfr rfl rfl (hcl3 36 0 (4, 0, 0) (by decide) rfl).1 jfr20.1 (eX4_scanInterval (28, .getfield 36, 3) (List.mem_of_getElem? (i := 15) rfl)) ?_
    refine ff_bipush hx hb (eX4_scanInterval (31, .bipush 47, 2) (List.mem_of_getElem? (i := 16) rfl)) (by decide) (by decide) (fun v21 e21 => ?_)
    refine tz_rowV (As := [.int v21]) (st := []) (b := tx) (C := RX0) (Ts := gT) hx hb hml hown h2 (fun _ h => h) (hX0_need l D cA ro sz H0 tx v21 47 T (x20.2.2) htx (by omega) (by decide)) ⟨rfl, rfl⟩ ⟨by decide, by decide⟩ ⟨by decide, by decide⟩ (tb_4 44 rfl rfl) (tb_1 5 rfl rfl) (tb_4 230 rfl rfl) (tb_4 42 rfl rfl) (tb_4 43 rfl rfl) (show yX0_need.cls ≠ "java/lang/invoke/MethodHandle" ∧ yX0_need.cls ≠ "java/lang/invoke/VarHandle" ∧ (parseMethodDescriptor yX0_need.desc).map (fun d => d.parameters.length) = some 1 by decide +kernel) zs_blind (zs_ob hh20 htx (show RTg[0]? = some (0, 0, 0, fsX0) from rfl) (zCX0 hKn.1)) (fun U hU hW => ⟨rfl, by rw [hU]; exact hh20.l0, zKb s U hW.alike hKn, by rw [hU]; exact ju20⟩) hh20.2.2.1 hl3.1 (Nat.le_of_ble_eq_true rfl) (eX4_scanInterval (33, .invokevirtual 65, 3) (List.mem_of_getElem? (i := 17) rfl)) (fun r22 s22 t22 lo22 g22 f22 l22 => ?_)
    obtain ⟨q22, z22, c22, ju22, fx22⟩ := f22
    cases q22
    rw [g22] at c22 fx22
    have hh22 : zh_ok D cA RTg ro sz H0 t22.heap lo22 := ⟨z22.1, z22.2.1, l22, z22.2.2.2⟩
    have kp22 := kp20.trans (c22.mono (ms' := rdMq) (by decide))
    generalize hx22 : ndF T 47 x20.2.2 = x22 at ju22
    have uu22 := ju22.2.2
    unfold uOK at uu22
    have jfr22 := jfr20.kept hfr c22 (by decide)
    have jdt22 := jdt20.kept hdt rfl (by decide) c22 (by decide)
    have jtm22 := jtm20.kept htm rfl (by decide) c22 (by decide)
    have jlp22 := jlp20.kept hlp c22 (by decide) (by decide) (by decide)
    refine W.eq (g2 := F0 m 36 ls3 []) rfl ?_
    refine lv_iload_n hx hb (eX4_scanInterval (36, .iload_n 1, 1) (List.mem_of_getElem? (i := 18) rfl)) rfl (lv_at hl3 0 rfl) ?_
    refine ff_if_ne hx hb (eX4_scanInterval (37, .ifCond .ne 23, 3) (List.mem_of_getElem? (i := 19) rfl)) (tgt := 60) rfl (fun c23 => ?_) (fun c23 => (by exfalso; omega))
    refine lv_aload_n hx hb (eX4_scanInterval (60, .aload_n 0, 1) (List.mem_of_getElem? (i := 29) rfl)) rfl (lv_at hl3 1 rfl) ?_
    refine ff_iconst hx hb (eX4_scanInterval (61, .iconst 1, 1) (List.mem_of_getElem? (i := 30) rfl)) (by decide) (by decide) (fun v24 e24 => ?_)
    refine tz_rowV (As := [.int v24]) (st := []) (b := fr) (C := RX4) (Ts := gT) hx hb hml hown h2 (fun _ h => h) (hX4_scanMoment l D cA ro sz H0 fr v24 tx lp dt tm du T L (x20.1, x20.2.1, x22)  hfr htx hlp hdt htm hdu ) ⟨rfl, rfl⟩ ⟨by decide, by decide⟩ ⟨by decide, by decide⟩ (tb_5 140 rfl rfl) (tb_1 7 rfl rfl) (tb_5 177 rfl rfl) (tb_5 138 rfl rfl) (tb_5 139 rfl rfl) (show yX4_scanMoment.cls ≠ "java/lang/invoke/MethodHandle" ∧ yX4_scanMoment.cls ≠ "java/lang/invoke/VarHandle" ∧ (parseMethodDescriptor yX4_scanMoment.desc).map (fun d => d.parameters.length) = some 1 by decide +kernel) zs_blindC (zs_ob hh22 hfr (show RTg[3]? = some (0, 3, 0, fsX4) from rfl) (zCX4 hKn.1)) (fun U hU hW => ⟨rfl, by rw [hU]; exact hh22.l0, ⟨zKb s U hW.alike hKn, hBQ.alike hW.alike, hLQ.alike hW.alike⟩, by rw [hU]; exact ⟨jfr22, ju22, jdt22, jtm22, jlp22⟩⟩) hh22.2.2.1 hl3.1 (Nat.le_of_ble_eq_true rfl) (eX4_scanInterval (62, .invokevirtual 122, 3) (List.mem_of_getElem? (i := 31) rfl)) (fun r25 s25 t25 lo25 g25 f25 l25 => ?_)
    obtain ⟨q25, z25, c25, jb25⟩ := f25
    cases q25
    rw [g25] at c25
    have hh25 : zh_ok D cA RTg ro sz H0 t25.heap lo25 := ⟨z25.1, z25.2.1, l25, z25.2.2.2⟩
    have kp25 := kp22.trans (c25.mono (ms' := rdMq) (by decide))
    generalize hx25 : mqF T L (x20.1, x20.2.1, x22) = x25 at jb25
    obtain ⟨jfr25, ju25, jdt25, jtm25, jlp25⟩ := jb25
    have uu25 := ju25.2.2
    unfold uOK at uu25
    refine W.eq (g2 := F0 m 65 ls3 []) rfl ?_
    have hfin : iqF T L x = (x25.1, x25.2.1, x25.2.2) := by rw [← hx25, ← hx22, ← hx20]; first | (simp only [iqF, if_pos dp]; done) | (simp only [iqF, if_pos dp] <;> rfl)
    exact W.vret hx hb hr (fun t ht hW => ⟨rfl, by rw [ht]; exact hh25.l0, by rw [ht]; exact kp25, by rw [ht, hfin]; exact ⟨jfr25, ju25, jdt25, jtm25, jlp25⟩⟩) hh25.2.2.1 (eX4_scanInterval (65, .return_, 1) (List.mem_of_getElem? (i := 32) rfl))
set_option maxRecDepth 100000 in
set_option maxHeartbeats 4000000 in
theorem hX4_scanCount (l : Launch) (D : va_G) (cA : Nat → ClassId) (ro : Nat → Option Nat) (sz : Nat) (H0 : Heap) (fr : Nat)  (tx lp dt tm du : Nat) (T L : List Int) (x : mS) (hfr : ro fr = some 3) (htx : ro tx = some 0) (hlp : ro lp = some 4) (hdt : ro dt = some 1) (htm : ro tm = some 7) (hdu : ro du = some 2) : Met l yX4_scanCount (gW yX4_scanCount cX4_scanCount 1 none) { frames := 3, cells := 0, slots := 0, locals := 62 } (zs_PC D cA ro sz H0 (fun H => jRw D cA ro H fr tx lp dt tm du T L x) [.ref fr]) (rd_V D cA ro sz H0 fr tx lp dt tm du T L (cqF T x)) 0 0 (zy_fr sz) := by
  refine zy_ofW (cc := cX4_scanCount) (maxL := 1) (ret := none) (by decide +kernel) rfl ?_
  intro p e s m args below meth c s1 B hml hv
  obtain ⟨rfl, hh, ⟨hKn, hBQ, hLQ⟩, hJ⟩ := hv
  have hx := B.exec
  have hb := B.bytes
  have hr := B.returns
  have hlk := B.notSynchronized
  have hts0 := atoms_spec (ws := gW yX4_scanCount cX4_scanCount 1 none) B.pre
  have h2 : ∀ w ∈ gT, w.before ([.ref fr] : List Value).toArray s = true := fun w hw => hts0 w (List.mem_cons_of_mem _ hw)
  have hown : s.vm.findClass RX4 = some m.cls := findClass_of_methodNamed B.named
  have hl := lv_entry [.ref fr] (n := 1) (Nat.le_of_ble_eq_true rfl)
  rw [lg_entry_eq]
  generalize (lg_sl [.ref fr] ++ List.replicate (1 - (lg_sl [.ref fr]).length) Slot.unset).toArray = ls at hl ⊢
  have hD := zD_all h2 hKn.1
  have hcl3 := fun (idx k : Nat) (t : zt_T) (h : (idx, 3, k) ∈ gfX4) (hk : fsX4[k]? = some t) => zf_clause (ro := ro) (ms := rdMq) h2 hown hKn.1 gfX4_ok (by decide +kernel) idx 3 k 3 0 fsX4 t h rfl hk
  have hcl0 := fun (idx k : Nat) (t : zt_T) (h : (idx, 0, k) ∈ gfX4) (hk : fsX0[k]? = some t) => zf_clause (ro := ro) (ms := rdMq) h2 hown hKn.1 gfX4_ok (by decide +kernel) idx 0 k 0 0 fsX0 t h rfl hk
  have hcl1 := fun (idx k : Nat) (t : zt_T) (h : (idx, 1, k) ∈ gfX4) (hk : fsX1[k]? = some t) => zf_clause (ro := ro) (ms := rdMq) h2 hown hKn.1 gfX4_ok (by decide +kernel) idx 1 k 1 0 fsX1 t h rfl hk
  have hcl7 := fun (idx k : Nat) (t : zt_T) (h : (idx, 7, k) ∈ gfX4) (hk : fsX8[k]? = some t) => zf_clause (ro := ro) (ms := rdMq) h2 hown hKn.1 gfX4_ok (by decide +kernel) idx 7 k 7 0 fsX8 t h rfl hk
  have hcl2 := fun (idx k : Nat) (t : zt_T) (h : (idx, 2, k) ∈ gfX4) (hk : fsX3[k]? = some t) => zf_clause (ro := ro) (ms := rdMq) h2 hown hKn.1 gfX4_ok (by decide +kernel) idx 2 k 2 0 fsX3 t h rfl hk
  have kp0 : zc_kept D RTg ro rdMq s.heap s.heap := zc_kept.refl
  obtain ⟨jfr0, ju0, jdt0, jtm0, jlp0⟩ := hJ
  have hu := ju0.2.2
  unfold uOK at hu
  refine lv_aload_n hx hb (eX4_scanCount (0, .aload_n 0, 1) (List.mem_of_getElem? (i := 0) rfl)) rfl (lv_at hl 0 rfl) ?_
  refine tz_get (r := 3) (k := 0) (t := (4, 0, 0)) hx hb hh hfr rfl rfl (hcl3 36 0 (4, 0, 0) (by decide) rfl).1 jfr0.1 (eX4_scanCount (1, .getfield 36, 3) (List.mem_of_getElem? (i := 1) rfl)) ?_
  refine ff_bipush hx hb (eX4_scanCount (4, .bipush 82, 2) (List.mem_of_getElem? (i := 2) rfl)) (by decide) (by decide) (fun v1 e1 => ?_)
  refine tz_rowV (As := [.int v1]) (st := []) (b := tx) (C := RX0) (Ts := gT) hx hb hml hown h2 (fun _ h => h) (hX0_need l D cA ro sz H0 tx v1 82 T (x.2.2) htx (by omega) (by decide)) ⟨rfl, rfl⟩ ⟨by decide, by decide⟩ ⟨by decide, by decide⟩ (tb_4 44 rfl rfl) (tb_1 5 rfl rfl) (tb_4 230 rfl rfl) (tb_4 42 rfl rfl) (tb_4 43 rfl rfl) (show yX0_need.cls ≠ "java/lang/invoke/MethodHandle" ∧ yX0_need.cls ≠ "java/lang/invoke/VarHandle" ∧ (parseMethodDescriptor yX0_need.desc).map (fun d => d.parameters.length) = some 1 by decide +kernel) zs_blind (zs_ob hh htx (show RTg[0]? = some (0, 0, 0, fsX0) from rfl) (zCX0 hKn.1)) (fun U hU hW => ⟨rfl, by rw [hU]; exact hh.l0, zKb s U hW.alike hKn, by rw [hU]; exact ju0⟩) hh.2.2.1 hl.1 (Nat.le_of_ble_eq_true rfl) (eX4_scanCount (6, .invokevirtual 65, 3) (List.mem_of_getElem? (i := 3) rfl)) (fun r2 s2 t2 lo2 g2 f2 l2 => ?_)
  obtain ⟨q2, z2, c2, ju2, fx2⟩ := f2
  cases q2
  rw [g2] at c2 fx2
  have hh2 : zh_ok D cA RTg ro sz H0 t2.heap lo2 := ⟨z2.1, z2.2.1, l2, z2.2.2.2⟩
  have kp2 := kp0.trans (c2.mono (ms' := rdMq) (by decide))
  generalize hx2 : ndF T 82 x.2.2 = x2 at ju2
  have uu2 := ju2.2.2
  unfold uOK at uu2
  have jfr2 := jfr0.kept hfr c2 (by decide)
  have jdt2 := jdt0.kept hdt rfl (by decide) c2 (by decide)
  have jtm2 := jtm0.kept htm rfl (by decide) c2 (by decide)
  have jlp2 := jlp0.kept hlp c2 (by decide) (by decide) (by decide)
  refine W.eq (g2 := F0 m 9 ls []) rfl ?_
  refine lv_aload_n hx hb (eX4_scanCount (9, .aload_n 0, 1) (List.mem_of_getElem? (i := 4) rfl)) rfl (lv_at hl 0 rfl) ?_
  refine tz_get (r := 3) (k := 0) (t := (4, 0, 0)) hx hb hh2 hfr rfl rfl (hcl3 36 0 (4, 0, 0) (by decide) rfl).1 jfr2.1 (eX4_scanCount (10, .getfield 36, 3) (List.mem_of_getElem? (i := 5) rfl)) ?_
  refine tz_rowV (As := []) (st := []) (b := tx) (C := RX0) (Ts := gT) hx hb hml hown h2 (fun _ h => h) (hX0_atDigit l D cA ro sz H0 tx T (x2) htx) ⟨rfl, rfl⟩ ⟨by decide, by decide⟩ ⟨by decide, by decide⟩ (tb_4 24 rfl rfl) (tb_1 5 rfl rfl) (tb_5 182 rfl rfl) (tb_4 22 rfl rfl) (tb_4 23 rfl rfl) (show yX0_atDigit.cls ≠ "java/lang/invoke/MethodHandle" ∧ yX0_atDigit.cls ≠ "java/lang/invoke/VarHandle" ∧ (parseMethodDescriptor yX0_atDigit.desc).map (fun d => d.parameters.length) = some 0 by decide +kernel) zs_blind (zs_ob hh2 htx (show RTg[0]? = some (0, 0, 0, fsX0) from rfl) (zCX0 hKn.1)) (fun U hU hW => ⟨rfl, by rw [hU]; exact hh2.l0, zKb s U hW.alike hKn, by rw [hU]; exact ju2⟩) hh2.2.2.1 hl.1 (Nat.le_of_ble_eq_true rfl) (eX4_scanCount (13, .invokevirtual 125, 3) (List.mem_of_getElem? (i := 6) rfl)) (fun r3 s3 t3 lo3 g3 f3 l3 => ?_)
  obtain ⟨z3, v3, q3, e3⟩ := f3
  cases q3
  rw [z3, g3]
  have hh3 : zh_ok D cA RTg ro sz H0 t2.heap lo3 := ⟨hh2.1, hh2.2.1, l3, hh2.2.2.2⟩
  refine W.eq (g2 := F0 m 16 ls [.int v3]) rfl ?_
  refine ff_if_eq hx hb (eX4_scanCount (16, .ifCond .eq 20, 3) (List.mem_of_getElem? (i := 7) rfl)) (tgt := 36) rfl (fun c4 => ?_) (fun c4 => ?_)
  · skip
    have d5 : ¬ 0 ≤ dgF T x2 := by omega
    refine lv_aload_n hx hb (eX4_scanCount (36, .aload_n 0, 1) (List.mem_of_getElem? (i := 18) rfl)) rfl (lv_at hl 0 rfl) ?_
    refine tz_get (r := 3) (k := 0) (t := (4, 0, 0)) hx hb hh3 hfr rfl rfl (hcl3 36 0 (4, 0, 0) (by decide) rfl).1 jfr2.1 (eX4_scanCount (37, .getfield 36, 3) (List.mem_of_getElem? (i := 19) rfl)) ?_
    refine ff_bipush hx hb (eX4_scanCount (40, .bipush 47, 2) (List.mem_of_getElem? (i := 20) rfl)) (by decide) (by decide) (fun v6 e6 => ?_)
    refine tz_rowV (As := [.int v6]) (st := []) (b := tx) (C := RX0) (Ts := gT) hx hb hml hown h2 (fun _ h => h) (hX0_need l D cA ro sz H0 tx v6 47 T (x2) htx (by omega) (by decide)) ⟨rfl, rfl⟩ ⟨by decide, by decide⟩ ⟨by decide, by decide⟩ (tb_4 44 rfl rfl) (tb_1 5 rfl rfl) (tb_4 230 rfl rfl) (tb_4 42 rfl rfl) (tb_4 43 rfl rfl) (show yX0_need.cls ≠ "java/lang/invoke/MethodHandle" ∧ yX0_need.cls ≠ "java/lang/invoke/VarHandle" ∧ (parseMethodDescriptor yX0_need.desc).map (fun d => d.parameters.length) = some 1 by decide +kernel) zs_blind (zs_ob hh3 htx (show RTg[0]? = some (0, 0, 0, fsX0) from rfl) (zCX0 hKn.1)) (fun U hU hW => ⟨rfl, by rw [hU]; exact hh3.l0, zKb s U hW.alike hKn, by rw [hU]; exact ju2⟩) hh3.2.2.1 hl.1 (Nat.le_of_ble_eq_true rfl) (eX4_scanCount (42, .invokevirtual 65, 3) (List.mem_of_getElem? (i := 21) rfl)) (fun r7 s7 t7 lo7 g7 f7 l7 => ?_)
    obtain ⟨q7, z7, c7, ju7, fx7⟩ := f7
    cases q7
    rw [g7] at c7 fx7
    have hh7 : zh_ok D cA RTg ro sz H0 t7.heap lo7 := ⟨z7.1, z7.2.1, l7, z7.2.2.2⟩
    have kp7 := kp2.trans (c7.mono (ms' := rdMq) (by decide))
    generalize hx7 : ndF T 47 x2 = x7 at ju7
    have uu7 := ju7.2.2
    unfold uOK at uu7
    have jfr7 := jfr2.kept hfr c7 (by decide)
    have jdt7 := jdt2.kept hdt rfl (by decide) c7 (by decide)
    have jtm7 := jtm2.kept htm rfl (by decide) c7 (by decide)
    have jlp7 := jlp2.kept hlp c7 (by decide) (by decide) (by decide)
    refine W.eq (g2 := F0 m 45 ls []) rfl ?_
    have hfin : cqF T x = (x.1, x.2.1, x7) := by first | (simp only [cqF, hx2, hx7, if_neg d5, up_eq]; done) | (simp only [cqF, hx2, hx7, if_neg d5, up_eq] <;> rfl) | rfl
    exact W.vret hx hb hr (fun t ht hW => ⟨rfl, by rw [ht]; exact hh7.l0, by rw [ht]; exact kp7, by rw [ht, hfin]; exact ⟨jfr7, ju7, jdt7, jtm7, jlp7⟩⟩) hh7.2.2.1 (eX4_scanCount (45, .return_, 1) (List.mem_of_getElem? (i := 22) rfl))
  · skip
    have d8 : 0 ≤ dgF T x2 := by omega
    refine lv_aload_n hx hb (eX4_scanCount (19, .aload_n 0, 1) (List.mem_of_getElem? (i := 8) rfl)) rfl (lv_at hl 0 rfl) ?_
    refine ff_iconst hx hb (eX4_scanCount (20, .iconst 2, 1) (List.mem_of_getElem? (i := 9) rfl)) (by decide) (by decide) (fun v9 e9 => ?_)
    refine ff_iconst hx hb (eX4_scanCount (21, .iconst 0, 1) (List.mem_of_getElem? (i := 10) rfl)) (by decide) (by decide) (fun v10 e10 => ?_)
    refine lv_aload_n hx hb (eX4_scanCount (22, .aload_n 0, 1) (List.mem_of_getElem? (i := 11) rfl)) rfl (lv_at hl 0 rfl) ?_
    refine tz_get (r := 3) (k := 0) (t := (4, 0, 0)) hx hb hh3 hfr rfl rfl (hcl3 36 0 (4, 0, 0) (by decide) rfl).1 jfr2.1 (eX4_scanCount (23, .getfield 36, 3) (List.mem_of_getElem? (i := 12) rfl)) ?_
    refine ff_iconst hx hb (eX4_scanCount (26, .iconst 1, 1) (List.mem_of_getElem? (i := 13) rfl)) (by decide) (by decide) (fun v11 e11 => ?_)
    refine ff_bipush hx hb (eX4_scanCount (27, .bipush 9, 2) (List.mem_of_getElem? (i := 14) rfl)) (by decide) (by decide) (fun v12 e12 => ?_)
    refine tz_rowV (As := [.int v11, .int v12]) (st := [.int v10, .int v9, .ref fr]) (b := tx) (C := RX0) (Ts := gT) hx hb hml hown h2 (fun _ h => h) (hX0_numberW l D cA ro sz H0 tx v11 v12 1 9 T (x2) htx (by omega) (by omega) (by decide)) ⟨rfl, rfl⟩ ⟨by decide, by decide⟩ ⟨by decide, by decide⟩ (tb_4 60 rfl rfl) (tb_1 5 rfl rfl) (tb_5 183 rfl rfl) (tb_4 58 rfl rfl) (tb_4 59 rfl rfl) (show yX0_number.cls ≠ "java/lang/invoke/MethodHandle" ∧ yX0_number.cls ≠ "java/lang/invoke/VarHandle" ∧ (parseMethodDescriptor yX0_number.desc).map (fun d => d.parameters.length) = some 2 by decide +kernel) zs_blind (zs_ob hh3 htx (show RTg[0]? = some (0, 0, 0, fsX0) from rfl) (zCX0 hKn.1)) (fun U hU hW => ⟨rfl, by rw [hU]; exact hh3.l0, zKb s U hW.alike hKn, by rw [hU]; exact ju2⟩) hh3.2.2.1 hl.1 (Nat.le_of_ble_eq_true rfl) (eX4_scanCount (29, .invokevirtual 129, 3) (List.mem_of_getElem? (i := 15) rfl)) (fun r13 s13 t13 lo13 g13 f13 l13 => ?_)
    obtain ⟨v13, q13, e13, z13, c13, ju13, fx13⟩ := f13
    cases q13
    rw [g13] at c13 fx13
    have hh13 : zh_ok D cA RTg ro sz H0 t13.heap lo13 := ⟨z13.1, z13.2.1, l13, z13.2.2.2⟩
    have kp13 := kp2.trans (c13.mono (ms' := rdMq) (by decide))
    generalize hx13 : nbF T 1 9 0 0 x2 = x13 at ju13 e13
    have uu13 := ju13.2.2
    unfold uOK at uu13
    have jfr13 := jfr2.kept hfr c13 (by decide)
    have jdt13 := jdt2.kept hdt rfl (by decide) c13 (by decide)
    have jtm13 := jtm2.kept htm rfl (by decide) c13 (by decide)
    have jlp13 := jlp2.kept hlp c13 (by decide) (by decide) (by decide)
    refine W.eq (g2 := F0 m 32 ls [.int v13, .int v10, .int v9, .ref fr]) rfl ?_
    refine ff_i2l hx hb (eX4_scanCount (32, .i2l, 1) (List.mem_of_getElem? (i := 16) rfl)) (fun v14 e14 => ?_)
    refine tz_rowV (As := [.int v9, .int v10, .long v14]) (st := []) (b := fr) (C := RX4) (Ts := gT) hx hb hml hown h2 (fun _ h => h) (ty_V (J := fun _ => True) (vs := [.ref fr, .int v9, .int v10, .long v14]) (ms := [(17, 0)]) (mX4_put l D cA ro sz H0) (ty_pre ⟨Or.inr ⟨_, rfl, hfr⟩, ty_i _, ty_i _, ty_l _, trivial⟩ rfl rfl) rfl rfl) ⟨rfl, rfl⟩ ⟨by decide, by decide⟩ ⟨by decide, by decide⟩ (tb_5 82 rfl rfl) (tb_1 7 rfl rfl) (tb_5 79 rfl rfl) (tb_5 80 rfl rfl) (tb_5 81 rfl rfl) (show yX4_put.cls ≠ "java/lang/invoke/MethodHandle" ∧ yX4_put.cls ≠ "java/lang/invoke/VarHandle" ∧ (parseMethodDescriptor yX4_put.desc).map (fun d => d.parameters.length) = some 3 by decide +kernel) zs_blind (zs_ob hh13 hfr (show RTg[3]? = some (0, 3, 0, fsX4) from rfl) (zCX4 hKn.1)) (fun U hU hW => ⟨rfl, by rw [hU]; exact hh13.l0, zKb s U hW.alike hKn, by rw [hU]; exact trivial⟩) hh13.2.2.1 hl.1 (Nat.le_of_ble_eq_true rfl) (eX4_scanCount (33, .invokevirtual 82, 3) (List.mem_of_getElem? (i := 17) rfl)) (fun r15 s15 t15 lo15 g15 f15 l15 => ?_)
    obtain ⟨q15, z15, c15⟩ := f15
    cases q15
    rw [g15] at c15
    have hh15 : zh_ok D cA RTg ro sz H0 t15.heap lo15 := ⟨z15.1, z15.2.1, l15, z15.2.2.2⟩
    have kp15 := kp13.trans (c15.mono (ms' := rdMq) (by decide))
    have jfr15 := jfr13.kept hfr c15 (by decide)
    have ju15 := ju13.kept htx c15 (by decide)
    have jdt15 := jdt13.kept hdt rfl (by decide) c15 (by decide)
    have jtm15 := jtm13.kept htm rfl (by decide) c15 (by decide)
    have jlp15 := jlp13.kept hlp c15 (by decide) (by decide) (by decide)
    refine W.eq (g2 := F0 m 36 ls []) rfl ?_
    refine lv_aload_n hx hb (eX4_scanCount (36, .aload_n 0, 1) (List.mem_of_getElem? (i := 18) rfl)) rfl (lv_at hl 0 rfl) ?_
    refine tz_get (r := 3) (k := 0) (t := (4, 0, 0)) hx hb hh15 hfr rfl rfl (hcl3 36 0 (4, 0, 0) (by decide) rfl).1 jfr15.1 (eX4_scanCount (37, .getfield 36, 3) (List.mem_of_getElem? (i := 19) rfl)) ?_
    refine ff_bipush hx hb (eX4_scanCount (40, .bipush 47, 2) (List.mem_of_getElem? (i := 20) rfl)) (by decide) (by decide) (fun v16 e16 => ?_)
    refine tz_rowV (As := [.int v16]) (st := []) (b := tx) (C := RX0) (Ts := gT) hx hb hml hown h2 (fun _ h => h) (hX0_need l D cA ro sz H0 tx v16 47 T (x13.2) htx (by omega) (by decide)) ⟨rfl, rfl⟩ ⟨by decide, by decide⟩ ⟨by decide, by decide⟩ (tb_4 44 rfl rfl) (tb_1 5 rfl rfl) (tb_4 230 rfl rfl) (tb_4 42 rfl rfl) (tb_4 43 rfl rfl) (show yX0_need.cls ≠ "java/lang/invoke/MethodHandle" ∧ yX0_need.cls ≠ "java/lang/invoke/VarHandle" ∧ (parseMethodDescriptor yX0_need.desc).map (fun d => d.parameters.length) = some 1 by decide +kernel) zs_blind (zs_ob hh15 htx (show RTg[0]? = some (0, 0, 0, fsX0) from rfl) (zCX0 hKn.1)) (fun U hU hW => ⟨rfl, by rw [hU]; exact hh15.l0, zKb s U hW.alike hKn, by rw [hU]; exact ju15⟩) hh15.2.2.1 hl.1 (Nat.le_of_ble_eq_true rfl) (eX4_scanCount (42, .invokevirtual 65, 3) (List.mem_of_getElem? (i := 21) rfl)) (fun r17 s17 t17 lo17 g17 f17 l17 => ?_)
    obtain ⟨q17, z17, c17, ju17, fx17⟩ := f17
    cases q17
    rw [g17] at c17 fx17
    have hh17 : zh_ok D cA RTg ro sz H0 t17.heap lo17 := ⟨z17.1, z17.2.1, l17, z17.2.2.2⟩
    have kp17 := kp15.trans (c17.mono (ms' := rdMq) (by decide))
    generalize hx17 : ndF T 47 x13.2 = x17 at ju17
    have uu17 := ju17.2.2
    unfold uOK at uu17
    have jfr17 := jfr15.kept hfr c17 (by decide)
    have jdt17 := jdt15.kept hdt rfl (by decide) c17 (by decide)
    have jtm17 := jtm15.kept htm rfl (by decide) c17 (by decide)
    have jlp17 := jlp15.kept hlp c17 (by decide) (by decide) (by decide)
    refine W.eq (g2 := F0 m 45 ls []) rfl ?_
    have hfin : cqF T x = (x.1, x.2.1, x17) := by first | (simp only [cqF, hx2, hx13, hx17, if_pos d8, up_eq]; done) | (simp only [cqF, hx2, hx13, hx17, if_pos d8, up_eq] <;> rfl) | rfl
    exact W.vret hx hb hr (fun t ht hW => ⟨rfl, by rw [ht]; exact hh17.l0, by rw [ht]; exact kp17, by rw [ht, hfin]; exact ⟨jfr17, ju17, jdt17, jtm17, jlp17⟩⟩) hh17.2.2.1 (eX4_scanCount (45, .return_, 1) (List.mem_of_getElem? (i := 22) rfl))
