/-! the cursor: where it is, whether it is broken, the first number that can not be -/
section UROW
variable {p : Program} {l : Launch} {e : Env} {R : Room} {s : State} {m : MethodId} {args : Array Value} {below : List Frame} {meth : Method} {c : Code} {H : Heap} {locs : List Loc} {cells slots : Nat} {Q : State → Prop} {cc : ByteArray} {pc : Nat} {ls : Array Slot} {st : List Value} {sz : Nat}
theorem tz_rowS {y : MethodName} {bytes : ByteArray} {maxL nL mc ms idx : Nat} {ret : Option FieldType} {rm : Room} {own : String} {Ts : List Cond} {Pc : Array Value → State → Prop} {Qc : Array Value → State → Outcome → State → Prop} {As : List Value}
    (hx : p.tables.exec = Jvm.exec) (hb : c.code = cc) (hml : c.maxLocals = nL) (hown : s.vm.findClass own = some m.cls) (hts : ∀ w ∈ Ts, w.before args s = true) (hGT : ∀ w ∈ gT, w ∈ Ts) (hM : Met l y (gW y bytes maxL ret) rm Pc Qc mc ms (zy_fr sz)) (h0 : rm.cells = mc ∧ rm.slots = ms) (hR : rm.frames + 1 ≤ R.frames ∧ 8 + (maxL + 11) + rm.locals ≤ R.locals) (hf : cells + mc ≤ R.cells ∧ slots + ms ≤ R.slots)
    (hc : Cond.code y bytes maxL ret ∈ gT) (hi : Cond.initialized y.cls ∈ gT) (hl : Cond.methodLink own idx y ∈ gT) (hst : Cond.static y ∈ gT) (hd : y.cls ≠ "java/lang/invoke/MethodHandle" ∧ y.cls ≠ "java/lang/invoke/VarHandle" ∧ (parseMethodDescriptor y.desc).map (fun d => d.parameters.length) = some As.length)
    (hbl : FrameBlind Pc) (hpre : ∀ U : State, U.heap = H → s.WarmedH U.vm → Pc As.toArray U) (hlo : ∀ q ∈ locs, sz ≤ q.base) (hsize : ls.size = nL) (hwt : (st.map fun v => v.category).sum ≤ 8) (hdg : decode cc pc = .ok (.invokestatic idx, 3))
    (kk : ∀ (v : Option Value) (s0 t : State) (locs' : List Loc), s0.heap = H → Qc As.toArray s0 (.returned v) t → (∀ q ∈ locs', sz ≤ q.base) → W p l e R s m args below meth c t.heap locs' (cells + mc) (slots + ms) Q (F0 m (pc + 3) ls (v.toList ++ st))) :
    W p l e R s m args below meth c H locs cells slots Q (F0 m pc ls (As.reverse ++ st)) := by
  have h2 : ∀ w ∈ gT, w.before args s = true := fun w hw => hts w (hGT w hw)
  have hG : GoodIn Ts (gW y bytes maxL ret) := fun w hw => by
    rcases List.mem_cons.mp hw with h | h
    · rw [h]; exact ⟨hGT _ hc, good_of_word (List.mem_filter.mp hc).2⟩
    · exact ⟨hGT _ h, good_of_word (List.mem_filter.mp h).2⟩
  have hr := va_runS (p := p) (l := l) (e := e) (R := R) (below := below) (meth := meth) (H := H) (locs := locs) (cells := cells) (slots := slots) (As := As) (rest := st) (g := F0 m pc ls (As.reverse ++ st)) ⟨hx, hb, hml, hown, hts⟩ hM ⟨callB_of As.length hts hG rfl h0.1 h0.2 (h2 _ hi) (h2 _ hl) hd hR, h2 _ hst⟩ ⟨hbl, hpre⟩ rfl rfl hsize rfl (lv_room hwt) hdg hf
  intro T hT X
  obtain ⟨v, s0, t, T', L, g0, X', hL, e1, e2, hq, go⟩ := hr T hT X
  obtain ⟨tt, b1, b2⟩ := kk v s0 t (locs ++ L) g0 hq (fun q hq => (List.mem_append.mp hq).elim (hlo q) (hL q)) T' e1 X'
  exact ⟨tt, go tt b1, b2⟩
end UROW
theorem an_256 {x y : Int32} (h0 : -128 ≤ x.toInt) (h1 : x.toInt ≤ 127) (hy : y.toInt = 255) : (x &&& y).toInt = x.toInt % 256 := by
  have e : ∀ n : Fin 256, (Int32.ofInt ((n.val : Int) - 128)).toInt = (n.val : Int) - 128 ∧ (Int32.ofInt ((n.val : Int) - 128) &&& 255).toInt = ((n.val : Int) - 128) % 256 := by decide +kernel
  have hy' : y = 255 := Int32.toInt_inj.mp (by rw [hy]; decide)
  obtain ⟨e1, e2⟩ := e ⟨(x.toInt + 128).toNat, by omega⟩
  have hn : (((x.toInt + 128).toNat : Nat) : Int) - 128 = x.toInt := by omega
  dsimp only at e1 e2
  rw [hn] at e1 e2
  have hx' : Int32.ofInt x.toInt = x := Int32.toInt_inj.mp e1
  rw [hx'] at e2
  rw [hy']
  exact e2
theorem byI_at {T : List Int} {a v : Int} (h : T[a.toNat]? = some v) : byI T a = v % 256 := by unfold byI; rw [h]
def uOK (T : List Int) (g : uS) : Prop := 0 ≤ g.1 ∧ g.1 ≤ (T.length : Int) ∧ (g.2.1 = 0 ∨ g.2.1 = 1)
def jP (D : va_G) (H : Heap) (tx : Nat) (g : uS) : Prop := ∃ av bv wv : Int32, zh_f D H tx 0 2 = .int av ∧ zh_f D H tx 0 3 = .int bv ∧ zh_f D H tx 0 4 = .int wv ∧ av.toInt = g.1 ∧ bv.toInt = g.2.1 ∧ wv.toInt = g.2.2
def jU (D : va_G) (cA : Nat → ClassId) (ro : Nat → Option Nat) (H : Heap) (tx : Nat) (T : List Int) (g : uS) : Prop := jTx D cA ro H tx T ∧ jP D H tx g ∧ uOK T g
def uM : List (Nat × Nat) := [(0, 2), (0, 3), (0, 4)]
theorem jU.kept {D : va_G} {cA : Nat → ClassId} {ro : Nat → Option Nat} {H H' : Heap} {ms : List (Nat × Nat)} {tx : Nat} {T : List Int} {g : uS} (hl : ro tx = some 0) (h : zc_kept D RTg ro ms H H') (hm : ∀ y ∈ [(0, 0), (0, 1), (0, 2), (0, 3), (0, 4), (12, 0)], y ∉ ms) (j : jU D cA ro H tx T g) : jU D cA ro H' tx T g := by
  obtain ⟨j1, ⟨av, bv, wv, a1, a2, a3, a4⟩, j3⟩ := j
  exact ⟨j1.kept hl h (hm _ (by decide)) (hm _ (by decide)) (hm _ (by decide)), ⟨av, bv, wv, (h.1 tx 0 2 0 0 fsX0 hl rfl (by decide) (hm _ (by decide))).trans a1, (h.1 tx 0 3 0 0 fsX0 hl rfl (by decide) (hm _ (by decide))).trans a2, (h.1 tx 0 4 0 0 fsX0 hl rfl (by decide) (hm _ (by decide))).trans a3, a4⟩, j3⟩
/-- what a call on the cursor gives: an int, nothing -/
def ku_Q (D : va_G) (cA : Nat → ClassId) (ro : Nat → Option Nat) (sz : Nat) (H0 : Heap) (ms : List (Nat × Nat)) (fa : List Nat) (tx : Nat) (T : List Int) (x : Int × uS) : Array Value → State → Outcome → State → Prop := fun _ st oc t => ∃ r : Int32, oc = .returned (some (.int r)) ∧ r.toInt = x.1 ∧ zh_ok D cA RTg ro sz H0 t.heap [] ∧ zc_kept D RTg ro ms st.heap t.heap ∧ jU D cA ro t.heap tx T x.2 ∧ ∀ p9 : Nat, p9 ∉ fa → t.heap[p9]? = st.heap[p9]?
def ku_V (D : va_G) (cA : Nat → ClassId) (ro : Nat → Option Nat) (sz : Nat) (H0 : Heap) (ms : List (Nat × Nat)) (fa : List Nat) (tx : Nat) (T : List Int) (x : uS) : Array Value → State → Outcome → State → Prop := fun _ st oc t => oc = .returned none ∧ zh_ok D cA RTg ro sz H0 t.heap [] ∧ zc_kept D RTg ro ms st.heap t.heap ∧ jU D cA ro t.heap tx T x ∧ ∀ p9 : Nat, p9 ∉ fa → t.heap[p9]? = st.heap[p9]?
/-! what the functions keep -/
theorem tkF_ok {T : List Int} {c : Int} {g : uS} (hc : 0 ≤ c) (h : uOK T g) : uOK T (tkF T c g).2 := by
  unfold tkF
  split
  · rename_i q
    have hb : g.2.1 = 0 := by
      apply Decidable.byContradiction
      intro b
      rw [lk_1 b] at q
      omega
    rw [lk_0 hb] at q
    have := byI_lt h.1 (show 0 ≤ byI T g.1 by omega)
    unfold uOK at h ⊢
    dsimp only
    omega
  · exact h
theorem nbF_up {T : List Int} {ld : Int} (n : Nat) : ∀ {i v : Int} {s : uS} {M : Int}, 0 ≤ v → v ≤ M → 0 ≤ (nbF T ld n i v s).1 ∧ (nbF T ld n i v s).1 ≤ M * 10 ^ n + (10 ^ n - 1) := by
  induction n with
  | zero => intro i v s M h1 h2; exact ⟨h1, by show v ≤ M * 10 ^ 0 + (10 ^ 0 - 1); rw [Int.pow_zero]; omega⟩
  | succ n ih =>
    intro i v s M h1 h2
    show 0 ≤ (if _ then _ else _ : Int × uS).1 ∧ (if _ then _ else _ : Int × uS).1 ≤ _
    have hp : (1 : Int) ≤ 10 ^ n := by
      have := Int.pow_pos (m := n) (show (0 : Int) < 10 by decide)
      omega
    have e : (10 : Int) ^ (n + 1) = 10 ^ n * 10 := Int.pow_succ _ _
    split
    · refine ⟨h1, ?_⟩
      show v ≤ _
      rw [e]
      have : M * 1 ≤ M * (10 ^ n * 10) := Int.mul_le_mul_of_nonneg_left (by omega) (by omega)
      omega
    · rename_i g
      have hd : 0 ≤ dgF T s ∧ dgF T s ≤ 9 := by
        refine ⟨by omega, ?_⟩
        unfold dgF
        split
        · rename_i q; have := q.2; omega
        · omega
      obtain ⟨q1, q2⟩ := ih (i := i + 1) (v := v * 10 + dgF T s) (s := (s.1 + 1, s.2)) (M := M * 10 + 9) (by omega) (by omega)
      refine ⟨q1, Int.le_trans q2 ?_⟩
      rw [e, Int.add_mul, show M * (10 ^ n * 10) = M * 10 * 10 ^ n by rw [Int.mul_comm (10 ^ n) 10, Int.mul_assoc]]
      omega
theorem niF_up {T : List Int} {ld : Int} {md : Nat} {lo hi : Int} {s : uS} : 0 ≤ (niF T ld md lo hi s).1 ∧ (niF T ld md lo hi s).1 ≤ 10 ^ md - 1 := by
  have := nbF_up (T := T) (ld := ld) md (i := 0) (v := 0) (s := s) (M := 0) (by decide) (by decide)
  rw [Int.zero_mul] at this
  show 0 ≤ (nbF T ld md 0 0 s).1 ∧ (nbF T ld md 0 0 s).1 ≤ _
  omega
theorem niF_1 {T : List Int} {ld lo hi : Int} {s : uS} : 0 ≤ (niF T ld 1 lo hi s).1 ∧ (niF T ld 1 lo hi s).1 ≤ 9 := niF_up
theorem niF_2 {T : List Int} {ld lo hi : Int} {s : uS} : 0 ≤ (niF T ld 2 lo hi s).1 ∧ (niF T ld 2 lo hi s).1 ≤ 99 := niF_up
theorem niF_3 {T : List Int} {ld lo hi : Int} {s : uS} : 0 ≤ (niF T ld 3 lo hi s).1 ∧ (niF T ld 3 lo hi s).1 ≤ 999 := niF_up
theorem ckF_up {T : List Int} {most : Int} {s : uS} : 0 ≤ (ckF T most s).1 ∧ (ckF T most s).1 ≤ 6039 := by
  have h1 := niF_2 (T := T) (ld := 1) (lo := 0) (hi := most) (s := s)
  have h2 := niF_2 (T := T) (ld := 2) (lo := 0) (hi := 59) (s := (tkF T 58 (niF T 1 2 0 most s).2).2)
  unfold ckF
  split <;> (dsimp only; omega)
set_option maxRecDepth 100000 in
set_option maxHeartbeats 4000000 in
theorem hX0_start (l : Launch) (D : va_G) (cA : Nat → ClassId) (ro : Nat → Option Nat) (sz : Nat) (H0 : Heap) (tx : Nat)  (T : List Int) (htx : ro tx = some 0)  : Met l yX0_start (gW yX0_start cX0_start 1 none) { frames := 0, cells := 0, slots := 0, locals := 0 } (zs_P D cA ro sz H0 (fun H => jTx D cA ro H tx T) [.ref tx]) (ku_V D cA ro sz H0 uM [tx] tx T (0, 0, -1)) 0 0 (zy_fr sz) := by
  refine zy_ofW (cc := cX0_start) (maxL := 1) (ret := none) (by decide +kernel) rfl ?_
  intro p e s m args below meth c s1 B hml hv
  obtain ⟨rfl, hh, hKn, hJ⟩ := hv
  have hx := B.exec
  have hb := B.bytes
  have hr := B.returns
  have hlk := B.notSynchronized
  have hts0 := atoms_spec (ws := gW yX0_start cX0_start 1 none) B.pre
  have h2 : ∀ w ∈ gT, w.before ([.ref tx] : List Value).toArray s = true := fun w hw => hts0 w (List.mem_cons_of_mem _ hw)
  have hown : s.vm.findClass RX0 = some m.cls := findClass_of_methodNamed B.named
  have hl := lv_entry [.ref tx] (n := 1) (Nat.le_of_ble_eq_true rfl)
  rw [lg_entry_eq]
  generalize (lg_sl [.ref tx] ++ List.replicate (1 - (lg_sl [.ref tx]).length) Slot.unset).toArray = ls at hl ⊢
  have hD := zD_all h2 hKn.1
  have hcl0 := fun (idx k : Nat) (t : zt_T) (h : (idx, 0, k) ∈ gfX0) (hk : fsX0[k]? = some t) => zf_clause (ro := ro) (ms := uM) h2 hown hKn.1 gfX0_ok (by decide +kernel) idx 0 k 0 0 fsX0 t h rfl hk
  have kp0 : zc_kept D RTg ro uM s.heap s.heap := zc_kept.refl
  have hjt := hJ
  obtain ⟨tb, n, z, f0, r0, f1, hn, hc, hz⟩ := id hjt
  obtain ⟨n9, g9, n1, n2⟩ := zh_fT (k := 1) (t := (0, 0, 120)) hh htx (show RTg[0]? = some (0, 0, 0, fsX0) from rfl) rfl
  cases f1.symm.trans g9
  dsimp only at n1 n2
  clear g9
  have fr0 : ∀ p9 : Nat, p9 ∉ [tx] → s.heap[p9]? = s.heap[p9]? := fun _ _ => rfl
  refine lv_aload_n hx hb (eX0_start (0, .aload_n 0, 1) (List.mem_of_getElem? (i := 0) rfl)) rfl (lv_at hl 0 rfl) ?_
  refine ff_iconst hx hb (eX0_start (1, .iconst 0, 1) (List.mem_of_getElem? (i := 1) rfl)) (by decide) (by decide) (fun v1 e1 => ?_)
  refine tz_put (r := 0) (k := 2) (t := (0, (-2147483648), 2147483647)) hx hb hD hh htx rfl rfl ((hcl0 19 2 (0, (-2147483648), 2147483647) (by decide) rfl).2 (by decide)) (tz_i (zn_i32 _).1 (zn_i32 _).2) (eX0_start (2, .putfield 19, 3) (List.mem_of_getElem? (i := 2) rfl)) (fun H2 lo2 hh2 hf2 hk2 _ hq2 => ?_)
  have mf2_tx_0 := (hk2.1 tx 0 0 0 0 fsX0 htx rfl (by decide) (by decide)).trans f0
  have mf2_tx_1 := (hk2.1 tx 0 1 0 0 fsX0 htx rfl (by decide) (by decide)).trans f1
  have kp2 := kp0.trans (hk2.mono (ms' := uM) (fun x hx => by cases List.mem_singleton.mp hx; decide))
  have jm2 := (hJ).kept htx hk2 (by decide) (by decide) (by decide)
  have fr2 : ∀ p9 : Nat, p9 ∉ [tx] → H2[p9]? = s.heap[p9]? := fun p9 h9 => (hq2 p9 (fun e9 => h9 (by rw [e9]; exact List.mem_cons_self))).trans (fr0 p9 h9)
  refine lv_aload_n hx hb (eX0_start (5, .aload_n 0, 1) (List.mem_of_getElem? (i := 3) rfl)) rfl (lv_at hl 0 rfl) ?_
  refine ff_iconst hx hb (eX0_start (6, .iconst 0, 1) (List.mem_of_getElem? (i := 4) rfl)) (by decide) (by decide) (fun v3 e3 => ?_)
  refine tz_put (r := 0) (k := 3) (t := (0, 0, 1)) hx hb hD hh2 htx rfl rfl ((hcl0 22 3 (0, 0, 1) (by decide) rfl).2 (by decide)) (tz_i (by omega) (by omega)) (eX0_start (7, .putfield 22, 3) (List.mem_of_getElem? (i := 5) rfl)) (fun H4 lo4 hh4 hf4 hk4 _ hq4 => ?_)
  have mf4_tx_0 := (hk4.1 tx 0 0 0 0 fsX0 htx rfl (by decide) (by decide)).trans mf2_tx_0
  have mf4_tx_1 := (hk4.1 tx 0 1 0 0 fsX0 htx rfl (by decide) (by decide)).trans mf2_tx_1
  have mf4_tx_2 := (hk4.1 tx 0 2 0 0 fsX0 htx rfl (by decide) (by decide)).trans hf2
  have kp4 := kp2.trans (hk4.mono (ms' := uM) (fun x hx => by cases List.mem_singleton.mp hx; decide))
  have jm4 := (jm2).kept htx hk4 (by decide) (by decide) (by decide)
  have fr4 : ∀ p9 : Nat, p9 ∉ [tx] → H4[p9]? = s.heap[p9]? := fun p9 h9 => (hq4 p9 (fun e9 => h9 (by rw [e9]; exact List.mem_cons_self))).trans (fr2 p9 h9)
  refine lv_aload_n hx hb (eX0_start (10, .aload_n 0, 1) (List.mem_of_getElem? (i := 6) rfl)) rfl (lv_at hl 0 rfl) ?_
  refine ff_iconst hx hb (eX0_start (11, .iconst (-1), 1) (List.mem_of_getElem? (i := 7) rfl)) (by decide) (by decide) (fun v5 e5 => ?_)
  refine tz_put (r := 0) (k := 4) (t := (0, (-2147483648), 2147483647)) hx hb hD hh4 htx rfl rfl ((hcl0 26 4 (0, (-2147483648), 2147483647) (by decide) rfl).2 (by decide)) (tz_i (zn_i32 _).1 (zn_i32 _).2) (eX0_start (12, .putfield 26, 3) (List.mem_of_getElem? (i := 8) rfl)) (fun H6 lo6 hh6 hf6 hk6 _ hq6 => ?_)
  have mf6_tx_0 := (hk6.1 tx 0 0 0 0 fsX0 htx rfl (by decide) (by decide)).trans mf4_tx_0
  have mf6_tx_1 := (hk6.1 tx 0 1 0 0 fsX0 htx rfl (by decide) (by decide)).trans mf4_tx_1
  have mf6_tx_2 := (hk6.1 tx 0 2 0 0 fsX0 htx rfl (by decide) (by decide)).trans mf4_tx_2
  have mf6_tx_3 := (hk6.1 tx 0 3 0 0 fsX0 htx rfl (by decide) (by decide)).trans hf4
  have kp6 := kp4.trans (hk6.mono (ms' := uM) (fun x hx => by cases List.mem_singleton.mp hx; decide))
  have jm6 := (jm4).kept htx hk6 (by decide) (by decide) (by decide)
  have fr6 : ∀ p9 : Nat, p9 ∉ [tx] → H6[p9]? = s.heap[p9]? := fun p9 h9 => (hq6 p9 (fun e9 => h9 (by rw [e9]; exact List.mem_cons_self))).trans (fr4 p9 h9)
  have hfin : ((0, 0, -1) : uS) = (0, 0, -1) := rfl
  exact W.vret hx hb hr (fun t ht hW => ⟨rfl, by rw [ht]; exact hh6.l0, by rw [ht]; exact kp6, by rw [ht, hfin]; exact ⟨jm6, ⟨_, _, _, mf6_tx_2, mf6_tx_3, hf6, by omega, by omega, by omega⟩, by unfold uOK; dsimp only; omega⟩, by rw [ht]; exact fr6⟩) hh6.2.2.1 (eX0_start (15, .return_, 1) (List.mem_of_getElem? (i := 9) rfl))
set_option maxRecDepth 100000 in
set_option maxHeartbeats 4000000 in
theorem hX0_look (l : Launch) (D : va_G) (cA : Nat → ClassId) (ro : Nat → Option Nat) (sz : Nat) (H0 : Heap) (tx : Nat)  (T : List Int) (sg : uS) (htx : ro tx = some 0)  : Met l yX0_look (gW yX0_look cX0_look 1 (some .int)) { frames := 0, cells := 0, slots := 0, locals := 0 } (zs_P D cA ro sz H0 (fun H => jU D cA ro H tx T sg) [.ref tx]) (fun _ st oc t => t.heap = st.heap ∧ ∃ r : Int32, oc = .returned (some (.int r)) ∧ r.toInt = lk T sg) 0 0 (zy_fr sz) := by
  refine zy_ofW (cc := cX0_look) (maxL := 1) (ret := (some .int)) (by decide +kernel) rfl ?_
  intro p e s m args below meth c s1 B hml hv
  obtain ⟨rfl, hh, hKn, hJ⟩ := hv
  have hx := B.exec
  have hb := B.bytes
  have hr := B.returns
  have hlk := B.notSynchronized
  have hts0 := atoms_spec (ws := gW yX0_look cX0_look 1 (some .int)) B.pre
  have h2 : ∀ w ∈ gT, w.before ([.ref tx] : List Value).toArray s = true := fun w hw => hts0 w (List.mem_cons_of_mem _ hw)
  have hown : s.vm.findClass RX0 = some m.cls := findClass_of_methodNamed B.named
  have hl := lv_entry [.ref tx] (n := 1) (Nat.le_of_ble_eq_true rfl)
  rw [lg_entry_eq]
  generalize (lg_sl [.ref tx] ++ List.replicate (1 - (lg_sl [.ref tx]).length) Slot.unset).toArray = ls at hl ⊢
  have hD := zD_all h2 hKn.1
  have hcl0 := fun (idx k : Nat) (t : zt_T) (h : (idx, 0, k) ∈ gfX0) (hk : fsX0[k]? = some t) => zf_clause (ro := ro) (ms := []) h2 hown hKn.1 gfX0_ok (by decide +kernel) idx 0 k 0 0 fsX0 t h rfl hk
  have kp0 : zc_kept D RTg ro [] s.heap s.heap := zc_kept.refl
  obtain ⟨hjt, ⟨av, bv, wv, f2, f3, f4, hav, hbv, hwv⟩, hu⟩ := id hJ
  obtain ⟨tb, n, z, f0, r0, f1, hn, hc, hz⟩ := id hjt
  obtain ⟨n9, g9, n1, n2⟩ := zh_fT (k := 1) (t := (0, 0, 120)) hh htx (show RTg[0]? = some (0, 0, 0, fsX0) from rfl) rfl
  cases f1.symm.trans g9
  dsimp only at n1 n2
  clear g9
  obtain ⟨-, z9, c9, hy9⟩ := zh_arr hh r0 (show RTg[12]? = some (1, 2, 120, [(0, (-128), 127)]) from rfl)
  have hy : ∀ i, i < 120 → zt_ok ro (z i) (0, (-128), 127) := zs_arr (hc.symm.trans c9) hy9
  obtain ⟨u1, u2, u3⟩ := id hu
  have fr0 : ∀ p9 : Nat, p9 ∉ [tx] → s.heap[p9]? = s.heap[p9]? := fun _ _ => rfl
  refine lv_aload_n hx hb (eX0_look (0, .aload_n 0, 1) (List.mem_of_getElem? (i := 0) rfl)) rfl (lv_at hl 0 rfl) ?_
  refine tz_get (r := 0) (k := 3) (t := (0, 0, 1)) hx hb hh htx rfl rfl (hcl0 22 3 (0, 0, 1) (by decide) rfl).1 f3 (eX0_look (1, .getfield 22, 3) (List.mem_of_getElem? (i := 1) rfl)) ?_
  refine ff_if_ne hx hb (eX0_look (4, .ifCond .ne 33, 3) (List.mem_of_getElem? (i := 2) rfl)) (tgt := 37) rfl (fun c1 => ?_) (fun c1 => ?_)
  · skip
    refine ff_iconst hx hb (eX0_look (37, .iconst (-1), 1) (List.mem_of_getElem? (i := 17) rfl)) (by decide) (by decide) (fun v2 e2 => ?_)
    refine lv_goto hx hb (eX0_look (38, .goto 16, 3) (List.mem_of_getElem? (i := 18) rfl)) (tgt := 54) rfl ?_
    exact W.zret hx hb hr rfl (fun t ht hW => ⟨ht, _, rfl, by first | (rw [lk_1 (by omega)]; omega) | (rw [lk_0 (by omega), byI_end (by omega)]; omega)⟩) hh.2.2.1 (eX0_look (54, .ireturn, 1) (List.mem_of_getElem? (i := 26) rfl))
  · skip
    refine lv_aload_n hx hb (eX0_look (7, .aload_n 0, 1) (List.mem_of_getElem? (i := 3) rfl)) rfl (lv_at hl 0 rfl) ?_
    refine tz_get (r := 0) (k := 2) (t := (0, (-2147483648), 2147483647)) hx hb hh htx rfl rfl (hcl0 19 2 (0, (-2147483648), 2147483647) (by decide) rfl).1 f2 (eX0_look (8, .getfield 19, 3) (List.mem_of_getElem? (i := 4) rfl)) ?_
    refine ff_if_lt hx hb (eX0_look (11, .ifCond .lt 26, 3) (List.mem_of_getElem? (i := 5) rfl)) (tgt := 37) rfl (fun c3 => ?_) (fun c3 => ?_)
    · skip
      refine ff_iconst hx hb (eX0_look (37, .iconst (-1), 1) (List.mem_of_getElem? (i := 17) rfl)) (by decide) (by decide) (fun v4 e4 => ?_)
      refine lv_goto hx hb (eX0_look (38, .goto 16, 3) (List.mem_of_getElem? (i := 18) rfl)) (tgt := 54) rfl ?_
      exact W.zret hx hb hr rfl (fun t ht hW => ⟨ht, _, rfl, by first | (rw [lk_1 (by omega)]; omega) | (rw [lk_0 (by omega), byI_end (by omega)]; omega)⟩) hh.2.2.1 (eX0_look (54, .ireturn, 1) (List.mem_of_getElem? (i := 26) rfl))
    · skip
      refine lv_aload_n hx hb (eX0_look (14, .aload_n 0, 1) (List.mem_of_getElem? (i := 6) rfl)) rfl (lv_at hl 0 rfl) ?_
      refine tz_get (r := 0) (k := 2) (t := (0, (-2147483648), 2147483647)) hx hb hh htx rfl rfl (hcl0 19 2 (0, (-2147483648), 2147483647) (by decide) rfl).1 f2 (eX0_look (15, .getfield 19, 3) (List.mem_of_getElem? (i := 7) rfl)) ?_
      refine lv_aload_n hx hb (eX0_look (18, .aload_n 0, 1) (List.mem_of_getElem? (i := 8) rfl)) rfl (lv_at hl 0 rfl) ?_
      refine tz_get (r := 0) (k := 1) (t := (0, 0, 120)) hx hb hh htx rfl rfl (hcl0 15 1 (0, 0, 120) (by decide) rfl).1 f1 (eX0_look (19, .getfield 15, 3) (List.mem_of_getElem? (i := 9) rfl)) ?_
      refine ff_icmp_ge hx hb (eX0_look (22, .if_icmp .ge 15, 3) (List.mem_of_getElem? (i := 10) rfl)) (tgt := 37) rfl (fun c5 => ?_) (fun c5 => ?_)
      · skip
        refine ff_iconst hx hb (eX0_look (37, .iconst (-1), 1) (List.mem_of_getElem? (i := 17) rfl)) (by decide) (by decide) (fun v6 e6 => ?_)
        refine lv_goto hx hb (eX0_look (38, .goto 16, 3) (List.mem_of_getElem? (i := 18) rfl)) (tgt := 54) rfl ?_
        exact W.zret hx hb hr rfl (fun t ht hW => ⟨ht, _, rfl, by first | (rw [lk_1 (by omega)]; omega) | (rw [lk_0 (by omega), byI_end (by omega)]; omega)⟩) hh.2.2.1 (eX0_look (54, .ireturn, 1) (List.mem_of_getElem? (i := 26) rfl))
      · skip
        refine lv_aload_n hx hb (eX0_look (25, .aload_n 0, 1) (List.mem_of_getElem? (i := 11) rfl)) rfl (lv_at hl 0 rfl) ?_
        refine tz_get (r := 0) (k := 2) (t := (0, (-2147483648), 2147483647)) hx hb hh htx rfl rfl (hcl0 19 2 (0, (-2147483648), 2147483647) (by decide) rfl).1 f2 (eX0_look (26, .getfield 19, 3) (List.mem_of_getElem? (i := 12) rfl)) ?_
        refine lv_aload_n hx hb (eX0_look (29, .aload_n 0, 1) (List.mem_of_getElem? (i := 13) rfl)) rfl (lv_at hl 0 rfl) ?_
        refine tz_get (r := 0) (k := 0) (t := (28, 0, 0)) hx hb hh htx rfl rfl (hcl0 9 0 (28, 0, 0) (by decide) rfl).1 f0 (eX0_look (30, .getfield 9, 3) (List.mem_of_getElem? (i := 14) rfl)) ?_
        refine tz_alen (ty := .byte) hx hb (zAr hKn.1 2 (by decide)) hh r0 (show RTg[12]? = some (1, 2, 120, [(0, (-128), 127)]) from rfl) (by decide) (eX0_look (33, .arraylength, 1) (List.mem_of_getElem? (i := 15) rfl)) (fun v7 e7 => ?_)
        refine ff_icmp_lt hx hb (eX0_look (34, .if_icmp .lt 7, 3) (List.mem_of_getElem? (i := 16) rfl)) (tgt := 41) rfl (fun c8 => ?_) (fun c8 => ?_)
        · skip
          refine lv_aload_n hx hb (eX0_look (41, .aload_n 0, 1) (List.mem_of_getElem? (i := 19) rfl)) rfl (lv_at hl 0 rfl) ?_
          refine tz_get (r := 0) (k := 0) (t := (28, 0, 0)) hx hb hh htx rfl rfl (hcl0 9 0 (28, 0, 0) (by decide) rfl).1 f0 (eX0_look (42, .getfield 9, 3) (List.mem_of_getElem? (i := 20) rfl)) ?_
          refine lv_aload_n hx hb (eX0_look (45, .aload_n 0, 1) (List.mem_of_getElem? (i := 21) rfl)) rfl (lv_at hl 0 rfl) ?_
          refine tz_get (r := 0) (k := 2) (t := (0, (-2147483648), 2147483647)) hx hb hh htx rfl rfl (hcl0 19 2 (0, (-2147483648), 2147483647) (by decide) rfl).1 f2 (eX0_look (46, .getfield 19, 3) (List.mem_of_getElem? (i := 22) rfl)) ?_
          refine tz_bald hx hb (zAr hKn.1 2 (by decide)) hc (by omega) (by omega) (eX0_look (49, .baload, 1) (List.mem_of_getElem? (i := 23) rfl)) ?_
          obtain ⟨v9, hz9, hT9⟩ := hz sg.1.toNat (by omega)
          obtain ⟨y9, hy9, l9, m9⟩ := hy sg.1.toNat (by omega)
          cases hz9.symm.trans hy9
          dsimp only at l9 m9
          have hby := byI_at hT9
          rw [show av.toNatClampNeg = sg.1.toNat by show av.toInt.toNat = _; omega, hz9]
          refine ff_sipush hx hb (eX0_look (50, .sipush 255, 3) (List.mem_of_getElem? (i := 24) rfl)) (by decide) (by decide) (fun v10 e10 => ?_)
          refine lv_iand hx hb (eX0_look (53, .iand, 1) (List.mem_of_getElem? (i := 25) rfl)) ?_
          have h256 := an_256 (x := v9) (y := v10) (by omega) (by omega) (by omega)
          generalize v9 &&& v10 = v11 at h256 ⊢
          exact W.zret hx hb hr rfl (fun t ht hW => ⟨ht, _, rfl, by rw [lk_0 (by omega)]; omega⟩) hh.2.2.1 (eX0_look (54, .ireturn, 1) (List.mem_of_getElem? (i := 26) rfl))
        · skip
          refine ff_iconst hx hb (eX0_look (37, .iconst (-1), 1) (List.mem_of_getElem? (i := 17) rfl)) (by decide) (by decide) (fun v12 e12 => ?_)
          refine lv_goto hx hb (eX0_look (38, .goto 16, 3) (List.mem_of_getElem? (i := 18) rfl)) (tgt := 54) rfl ?_
          exact W.zret hx hb hr rfl (fun t ht hW => ⟨ht, _, rfl, by first | (rw [lk_1 (by omega)]; omega) | (rw [lk_0 (by omega), byI_end (by omega)]; omega)⟩) hh.2.2.1 (eX0_look (54, .ireturn, 1) (List.mem_of_getElem? (i := 26) rfl))
set_option maxRecDepth 100000 in
set_option maxHeartbeats 4000000 in
theorem hX0_digit (l : Launch) (D : va_G) (cA : Nat → ClassId) (ro : Nat → Option Nat) (sz : Nat) (H0 : Heap) (tx : Nat)  (T : List Int) (sg : uS) (htx : ro tx = some 0)  : Met l yX0_digit (gW yX0_digit cX0_digit 2 (some .int)) { frames := 0, cells := 0, slots := 0, locals := 0 } (zs_P D cA ro sz H0 (fun H => jU D cA ro H tx T sg) [.ref tx]) (fun _ st oc t => t.heap = st.heap ∧ ∃ r : Int32, oc = .returned (some (.int r)) ∧ r.toInt = dgF T sg) 0 0 (zy_fr sz) := by
  refine zy_ofW (cc := cX0_digit) (maxL := 2) (ret := (some .int)) (by decide +kernel) rfl ?_
  intro p e s m args below meth c s1 B hml hv
  obtain ⟨rfl, hh, hKn, hJ⟩ := hv
  have hx := B.exec
  have hb := B.bytes
  have hr := B.returns
  have hlk := B.notSynchronized
  have hts0 := atoms_spec (ws := gW yX0_digit cX0_digit 2 (some .int)) B.pre
  have h2 : ∀ w ∈ gT, w.before ([.ref tx] : List Value).toArray s = true := fun w hw => hts0 w (List.mem_cons_of_mem _ hw)
  have hown : s.vm.findClass RX0 = some m.cls := findClass_of_methodNamed B.named
  have hl := lv_entry [.ref tx] (n := 2) (Nat.le_of_ble_eq_true rfl)
  rw [lg_entry_eq]
  generalize (lg_sl [.ref tx] ++ List.replicate (2 - (lg_sl [.ref tx]).length) Slot.unset).toArray = ls at hl ⊢
  have hD := zD_all h2 hKn.1
  have hcl0 := fun (idx k : Nat) (t : zt_T) (h : (idx, 0, k) ∈ gfX0) (hk : fsX0[k]? = some t) => zf_clause (ro := ro) (ms := []) h2 hown hKn.1 gfX0_ok (by decide +kernel) idx 0 k 0 0 fsX0 t h rfl hk
  have kp0 : zc_kept D RTg ro [] s.heap s.heap := zc_kept.refl
  obtain ⟨hjt, ⟨av, bv, wv, f2, f3, f4, hav, hbv, hwv⟩, hu⟩ := id hJ
  obtain ⟨tb, n, z, f0, r0, f1, hn, hc, hz⟩ := id hjt
  obtain ⟨n9, g9, n1, n2⟩ := zh_fT (k := 1) (t := (0, 0, 120)) hh htx (show RTg[0]? = some (0, 0, 0, fsX0) from rfl) rfl
  cases f1.symm.trans g9
  dsimp only at n1 n2
  clear g9
  obtain ⟨-, z9, c9, hy9⟩ := zh_arr hh r0 (show RTg[12]? = some (1, 2, 120, [(0, (-128), 127)]) from rfl)
  have hy : ∀ i, i < 120 → zt_ok ro (z i) (0, (-128), 127) := zs_arr (hc.symm.trans c9) hy9
  obtain ⟨u1, u2, u3⟩ := id hu
  have fr0 : ∀ p9 : Nat, p9 ∉ [tx] → s.heap[p9]? = s.heap[p9]? := fun _ _ => rfl
  refine lv_aload_n hx hb (eX0_digit (0, .aload_n 0, 1) (List.mem_of_getElem? (i := 0) rfl)) rfl (lv_at hl 0 rfl) ?_
  refine tz_get (r := 0) (k := 3) (t := (0, 0, 1)) hx hb hh htx rfl rfl (hcl0 22 3 (0, 0, 1) (by decide) rfl).1 f3 (eX0_digit (1, .getfield 22, 3) (List.mem_of_getElem? (i := 1) rfl)) ?_
  refine ff_if_ne hx hb (eX0_digit (4, .ifCond .ne 33, 3) (List.mem_of_getElem? (i := 2) rfl)) (tgt := 37) rfl (fun c1 => ?_) (fun c1 => ?_)
  · skip
    refine ff_iconst hx hb (eX0_digit (37, .iconst (-1), 1) (List.mem_of_getElem? (i := 17) rfl)) (by decide) (by decide) (fun v2 e2 => ?_)
    exact W.zret hx hb hr rfl (fun t ht hW => ⟨ht, _, rfl, by unfold dgF; (first | (rw [lk_0 (by omega)]) | (rw [lk_1 (by omega)]) | skip); (try rw [hby]); (try rw [byI_end (by omega)]); unfold isD; split <;> omega⟩) hh.2.2.1 (eX0_digit (38, .ireturn, 1) (List.mem_of_getElem? (i := 18) rfl))
  · skip
    refine lv_aload_n hx hb (eX0_digit (7, .aload_n 0, 1) (List.mem_of_getElem? (i := 3) rfl)) rfl (lv_at hl 0 rfl) ?_
    refine tz_get (r := 0) (k := 2) (t := (0, (-2147483648), 2147483647)) hx hb hh htx rfl rfl (hcl0 19 2 (0, (-2147483648), 2147483647) (by decide) rfl).1 f2 (eX0_digit (8, .getfield 19, 3) (List.mem_of_getElem? (i := 4) rfl)) ?_
    refine ff_if_lt hx hb (eX0_digit (11, .ifCond .lt 26, 3) (List.mem_of_getElem? (i := 5) rfl)) (tgt := 37) rfl (fun c3 => ?_) (fun c3 => ?_)
    · skip
      refine ff_iconst hx hb (eX0_digit (37, .iconst (-1), 1) (List.mem_of_getElem? (i := 17) rfl)) (by decide) (by decide) (fun v4 e4 => ?_)
      exact W.zret hx hb hr rfl (fun t ht hW => ⟨ht, _, rfl, by unfold dgF; (first | (rw [lk_0 (by omega)]) | (rw [lk_1 (by omega)]) | skip); (try rw [hby]); (try rw [byI_end (by omega)]); unfold isD; split <;> omega⟩) hh.2.2.1 (eX0_digit (38, .ireturn, 1) (List.mem_of_getElem? (i := 18) rfl))
    · skip
      refine lv_aload_n hx hb (eX0_digit (14, .aload_n 0, 1) (List.mem_of_getElem? (i := 6) rfl)) rfl (lv_at hl 0 rfl) ?_
      refine tz_get (r := 0) (k := 2) (t := (0, (-2147483648), 2147483647)) hx hb hh htx rfl rfl (hcl0 19 2 (0, (-2147483648), 2147483647) (by decide) rfl).1 f2 (eX0_digit (15, .getfield 19, 3) (List.mem_of_getElem? (i := 7) rfl)) ?_
      refine lv_aload_n hx hb (eX0_digit (18, .aload_n 0, 1) (List.mem_of_getElem? (i := 8) rfl)) rfl (lv_at hl 0 rfl) ?_
      refine tz_get (r := 0) (k := 1) (t := (0, 0, 120)) hx hb hh htx rfl rfl (hcl0 15 1 (0, 0, 120) (by decide) rfl).1 f1 (eX0_digit (19, .getfield 15, 3) (List.mem_of_getElem? (i := 9) rfl)) ?_
      refine ff_icmp_ge hx hb (eX0_digit (22, .if_icmp .ge 15, 3) (List.mem_of_getElem? (i := 10) rfl)) (tgt := 37) rfl (fun c5 => ?_) (fun c5 => ?_)
      · skip
        refine ff_iconst hx hb (eX0_digit (37, .iconst (-1), 1) (List.mem_of_getElem? (i := 17) rfl)) (by decide) (by decide) (fun v6 e6 => ?_)
        exact W.zret hx hb hr rfl (fun t ht hW => ⟨ht, _, rfl, by unfold dgF; (first | (rw [lk_0 (by omega)]) | (rw [lk_1 (by omega)]) | skip); (try rw [hby]); (try rw [byI_end (by omega)]); unfold isD; split <;> omega⟩) hh.2.2.1 (eX0_digit (38, .ireturn, 1) (List.mem_of_getElem? (i := 18) rfl))
      · skip
        refine lv_aload_n hx hb (eX0_digit (25, .aload_n 0, 1) (List.mem_of_getElem? (i := 11) rfl)) rfl (lv_at hl 0 rfl) ?_
        refine tz_get (r := 0) (k := 2) (t := (0, (-2147483648), 2147483647)) hx hb hh htx rfl rfl (hcl0 19 2 (0, (-2147483648), 2147483647) (by decide) rfl).1 f2 (eX0_digit (26, .getfield 19, 3) (List.mem_of_getElem? (i := 12) rfl)) ?_
        refine lv_aload_n hx hb (eX0_digit (29, .aload_n 0, 1) (List.mem_of_getElem? (i := 13) rfl)) rfl (lv_at hl 0 rfl) ?_
        refine tz_get (r := 0) (k := 0) (t := (28, 0, 0)) hx hb hh htx rfl rfl (hcl0 9 0 (28, 0, 0) (by decide) rfl).1 f0 (eX0_digit (30, .getfield 9, 3) (List.mem_of_getElem? (i := 14) rfl)) ?_
        refine tz_alen (ty := .byte) hx hb (zAr hKn.1 2 (by decide)) hh r0 (show RTg[12]? = some (1, 2, 120, [(0, (-128), 127)]) from rfl) (by decide) (eX0_digit (33, .arraylength, 1) (List.mem_of_getElem? (i := 15) rfl)) (fun v7 e7 => ?_)
        refine ff_icmp_lt hx hb (eX0_digit (34, .if_icmp .lt 5, 3) (List.mem_of_getElem? (i := 16) rfl)) (tgt := 39) rfl (fun c8 => ?_) (fun c8 => ?_)
        · skip
          refine lv_aload_n hx hb (eX0_digit (39, .aload_n 0, 1) (List.mem_of_getElem? (i := 19) rfl)) rfl (lv_at hl 0 rfl) ?_
          refine tz_get (r := 0) (k := 0) (t := (28, 0, 0)) hx hb hh htx rfl rfl (hcl0 9 0 (28, 0, 0) (by decide) rfl).1 f0 (eX0_digit (40, .getfield 9, 3) (List.mem_of_getElem? (i := 20) rfl)) ?_
          refine lv_aload_n hx hb (eX0_digit (43, .aload_n 0, 1) (List.mem_of_getElem? (i := 21) rfl)) rfl (lv_at hl 0 rfl) ?_
          refine tz_get (r := 0) (k := 2) (t := (0, (-2147483648), 2147483647)) hx hb hh htx rfl rfl (hcl0 19 2 (0, (-2147483648), 2147483647) (by decide) rfl).1 f2 (eX0_digit (44, .getfield 19, 3) (List.mem_of_getElem? (i := 22) rfl)) ?_
          refine tz_bald hx hb (zAr hKn.1 2 (by decide)) hc (by omega) (by omega) (eX0_digit (47, .baload, 1) (List.mem_of_getElem? (i := 23) rfl)) ?_
          obtain ⟨v9, hz9, hT9⟩ := hz sg.1.toNat (by omega)
          obtain ⟨y9, hy9, l9, m9⟩ := hy sg.1.toNat (by omega)
          cases hz9.symm.trans hy9
          dsimp only at l9 m9
          have hby := byI_at hT9
          rw [show av.toNatClampNeg = sg.1.toNat by show av.toInt.toNat = _; omega, hz9]
          refine ff_bipush hx hb (eX0_digit (48, .bipush 48, 2) (List.mem_of_getElem? (i := 24) rfl)) (by decide) (by decide) (fun v10 e10 => ?_)
          refine ff_isub hx hb (eX0_digit (50, .isub, 1) (List.mem_of_getElem? (i := 25) rfl)) (by omega) (by omega) (fun v11 e11 => ?_)
          refine lv_istore_n hx hb (eX0_digit (51, .istore_n 1, 1) (List.mem_of_getElem? (i := 26) rfl)) rfl hl (by decide) rfl (fun ls12 hl12 => ?_)
          refine lv_iload_n hx hb (eX0_digit (52, .iload_n 1, 1) (List.mem_of_getElem? (i := 27) rfl)) rfl (lv_at hl12 0 rfl) ?_
          refine ff_if_lt hx hb (eX0_digit (53, .ifCond .lt 9, 3) (List.mem_of_getElem? (i := 28) rfl)) (tgt := 62) rfl (fun c13 => ?_) (fun c13 => ?_)
          · skip
            refine ff_iconst hx hb (eX0_digit (62, .iconst (-1), 1) (List.mem_of_getElem? (i := 32) rfl)) (by decide) (by decide) (fun v14 e14 => ?_)
            refine lv_goto hx hb (eX0_digit (63, .goto 4, 3) (List.mem_of_getElem? (i := 33) rfl)) (tgt := 67) rfl ?_
            exact W.zret hx hb hr rfl (fun t ht hW => ⟨ht, _, rfl, by unfold dgF; (first | (rw [lk_0 (by omega)]) | (rw [lk_1 (by omega)]) | skip); (try rw [hby]); (try rw [byI_end (by omega)]); unfold isD; split <;> omega⟩) hh.2.2.1 (eX0_digit (67, .ireturn, 1) (List.mem_of_getElem? (i := 35) rfl))
          · skip
            refine lv_iload_n hx hb (eX0_digit (56, .iload_n 1, 1) (List.mem_of_getElem? (i := 29) rfl)) rfl (lv_at hl12 0 rfl) ?_
            refine ff_bipush hx hb (eX0_digit (57, .bipush 9, 2) (List.mem_of_getElem? (i := 30) rfl)) (by decide) (by decide) (fun v15 e15 => ?_)
            refine ff_icmp_le hx hb (eX0_digit (59, .if_icmp .le 7, 3) (List.mem_of_getElem? (i := 31) rfl)) (tgt := 66) rfl (fun c16 => ?_) (fun c16 => ?_)
            · skip
              refine lv_iload_n hx hb (eX0_digit (66, .iload_n 1, 1) (List.mem_of_getElem? (i := 34) rfl)) rfl (lv_at hl12 0 rfl) ?_
              exact W.zret hx hb hr rfl (fun t ht hW => ⟨ht, _, rfl, by unfold dgF; (first | (rw [lk_0 (by omega)]) | (rw [lk_1 (by omega)]) | skip); (try rw [hby]); (try rw [byI_end (by omega)]); unfold isD; split <;> omega⟩) hh.2.2.1 (eX0_digit (67, .ireturn, 1) (List.mem_of_getElem? (i := 35) rfl))
            · skip
              refine ff_iconst hx hb (eX0_digit (62, .iconst (-1), 1) (List.mem_of_getElem? (i := 32) rfl)) (by decide) (by decide) (fun v17 e17 => ?_)
              refine lv_goto hx hb (eX0_digit (63, .goto 4, 3) (List.mem_of_getElem? (i := 33) rfl)) (tgt := 67) rfl ?_
              exact W.zret hx hb hr rfl (fun t ht hW => ⟨ht, _, rfl, by unfold dgF; (first | (rw [lk_0 (by omega)]) | (rw [lk_1 (by omega)]) | skip); (try rw [hby]); (try rw [byI_end (by omega)]); unfold isD; split <;> omega⟩) hh.2.2.1 (eX0_digit (67, .ireturn, 1) (List.mem_of_getElem? (i := 35) rfl))
        · skip
          refine ff_iconst hx hb (eX0_digit (37, .iconst (-1), 1) (List.mem_of_getElem? (i := 17) rfl)) (by decide) (by decide) (fun v18 e18 => ?_)
          exact W.zret hx hb hr rfl (fun t ht hW => ⟨ht, _, rfl, by unfold dgF; (first | (rw [lk_0 (by omega)]) | (rw [lk_1 (by omega)]) | skip); (try rw [hby]); (try rw [byI_end (by omega)]); unfold isD; split <;> omega⟩) hh.2.2.1 (eX0_digit (38, .ireturn, 1) (List.mem_of_getElem? (i := 18) rfl))
set_option maxRecDepth 100000 in
set_option maxHeartbeats 4000000 in
theorem hX0_atEnd (l : Launch) (D : va_G) (cA : Nat → ClassId) (ro : Nat → Option Nat) (sz : Nat) (H0 : Heap) (tx : Nat)  (T : List Int) (sg : uS) (htx : ro tx = some 0)  : Met l yX0_atEnd (gW yX0_atEnd cX0_atEnd 1 (some .boolean)) { frames := 0, cells := 0, slots := 0, locals := 0 } (zs_P D cA ro sz H0 (fun H => jU D cA ro H tx T sg) [.ref tx]) (fun _ st oc t => t.heap = st.heap ∧ ∃ r : Int32, oc = .returned (some (.int r)) ∧ ((r.toInt = 1 ∧ sg.2.1 = 0 ∧ (T.length : Int) ≤ sg.1) ∨ (r.toInt = 0 ∧ ¬ (sg.2.1 = 0 ∧ (T.length : Int) ≤ sg.1)))) 0 0 (zy_fr sz) := by
  refine zy_ofW (cc := cX0_atEnd) (maxL := 1) (ret := (some .boolean)) (by decide +kernel) rfl ?_
  intro p e s m args below meth c s1 B hml hv
  obtain ⟨rfl, hh, hKn, hJ⟩ := hv
  have hx := B.exec
  have hb := B.bytes
  have hr := B.returns
  have hlk := B.notSynchronized
  have hts0 := atoms_spec (ws := gW yX0_atEnd cX0_atEnd 1 (some .boolean)) B.pre
  have h2 : ∀ w ∈ gT, w.before ([.ref tx] : List Value).toArray s = true := fun w hw => hts0 w (List.mem_cons_of_mem _ hw)
  have hown : s.vm.findClass RX0 = some m.cls := findClass_of_methodNamed B.named
  have hl := lv_entry [.ref tx] (n := 1) (Nat.le_of_ble_eq_true rfl)
  rw [lg_entry_eq]
  generalize (lg_sl [.ref tx] ++ List.replicate (1 - (lg_sl [.ref tx]).length) Slot.unset).toArray = ls at hl ⊢
  have hD := zD_all h2 hKn.1
  have hcl0 := fun (idx k : Nat) (t : zt_T) (h : (idx, 0, k) ∈ gfX0) (hk : fsX0[k]? = some t) => zf_clause (ro := ro) (ms := []) h2 hown hKn.1 gfX0_ok (by decide +kernel) idx 0 k 0 0 fsX0 t h rfl hk
  have kp0 : zc_kept D RTg ro [] s.heap s.heap := zc_kept.refl
  obtain ⟨hjt, ⟨av, bv, wv, f2, f3, f4, hav, hbv, hwv⟩, hu⟩ := id hJ
  obtain ⟨tb, n, z, f0, r0, f1, hn, hc, hz⟩ := id hjt
  obtain ⟨n9, g9, n1, n2⟩ := zh_fT (k := 1) (t := (0, 0, 120)) hh htx (show RTg[0]? = some (0, 0, 0, fsX0) from rfl) rfl
  cases f1.symm.trans g9
  dsimp only at n1 n2
  clear g9
  obtain ⟨-, z9, c9, hy9⟩ := zh_arr hh r0 (show RTg[12]? = some (1, 2, 120, [(0, (-128), 127)]) from rfl)
  have hy : ∀ i, i < 120 → zt_ok ro (z i) (0, (-128), 127) := zs_arr (hc.symm.trans c9) hy9
  obtain ⟨u1, u2, u3⟩ := id hu
  have fr0 : ∀ p9 : Nat, p9 ∉ [tx] → s.heap[p9]? = s.heap[p9]? := fun _ _ => rfl
  refine lv_aload_n hx hb (eX0_atEnd (0, .aload_n 0, 1) (List.mem_of_getElem? (i := 0) rfl)) rfl (lv_at hl 0 rfl) ?_
  refine tz_get (r := 0) (k := 3) (t := (0, 0, 1)) hx hb hh htx rfl rfl (hcl0 22 3 (0, 0, 1) (by decide) rfl).1 f3 (eX0_atEnd (1, .getfield 22, 3) (List.mem_of_getElem? (i := 1) rfl)) ?_
  refine ff_if_ne hx hb (eX0_atEnd (4, .ifCond .ne 18, 3) (List.mem_of_getElem? (i := 2) rfl)) (tgt := 22) rfl (fun c1 => ?_) (fun c1 => ?_)
  · skip
    refine ff_iconst hx hb (eX0_atEnd (22, .iconst 0, 1) (List.mem_of_getElem? (i := 10) rfl)) (by decide) (by decide) (fun v2 e2 => ?_)
    exact W.zret hx hb hr (zn_bool (by omega) (by omega)) (fun t ht hW => ⟨ht, _, rfl, by omega⟩) hh.2.2.1 (eX0_atEnd (23, .ireturn, 1) (List.mem_of_getElem? (i := 11) rfl))
  · skip
    refine lv_aload_n hx hb (eX0_atEnd (7, .aload_n 0, 1) (List.mem_of_getElem? (i := 3) rfl)) rfl (lv_at hl 0 rfl) ?_
    refine tz_get (r := 0) (k := 2) (t := (0, (-2147483648), 2147483647)) hx hb hh htx rfl rfl (hcl0 19 2 (0, (-2147483648), 2147483647) (by decide) rfl).1 f2 (eX0_atEnd (8, .getfield 19, 3) (List.mem_of_getElem? (i := 4) rfl)) ?_
    refine lv_aload_n hx hb (eX0_atEnd (11, .aload_n 0, 1) (List.mem_of_getElem? (i := 5) rfl)) rfl (lv_at hl 0 rfl) ?_
    refine tz_get (r := 0) (k := 1) (t := (0, 0, 120)) hx hb hh htx rfl rfl (hcl0 15 1 (0, 0, 120) (by decide) rfl).1 f1 (eX0_atEnd (12, .getfield 15, 3) (List.mem_of_getElem? (i := 6) rfl)) ?_
    refine ff_icmp_lt hx hb (eX0_atEnd (15, .if_icmp .lt 7, 3) (List.mem_of_getElem? (i := 7) rfl)) (tgt := 22) rfl (fun c3 => ?_) (fun c3 => ?_)
    · skip
      refine ff_iconst hx hb (eX0_atEnd (22, .iconst 0, 1) (List.mem_of_getElem? (i := 10) rfl)) (by decide) (by decide) (fun v4 e4 => ?_)
      exact W.zret hx hb hr (zn_bool (by omega) (by omega)) (fun t ht hW => ⟨ht, _, rfl, by omega⟩) hh.2.2.1 (eX0_atEnd (23, .ireturn, 1) (List.mem_of_getElem? (i := 11) rfl))
    · skip
      refine ff_iconst hx hb (eX0_atEnd (18, .iconst 1, 1) (List.mem_of_getElem? (i := 8) rfl)) (by decide) (by decide) (fun v5 e5 => ?_)
      refine lv_goto hx hb (eX0_atEnd (19, .goto 4, 3) (List.mem_of_getElem? (i := 9) rfl)) (tgt := 23) rfl ?_
      exact W.zret hx hb hr (zn_bool (by omega) (by omega)) (fun t ht hW => ⟨ht, _, rfl, by omega⟩) hh.2.2.1 (eX0_atEnd (23, .ireturn, 1) (List.mem_of_getElem? (i := 11) rfl))
set_option maxRecDepth 100000 in
set_option maxHeartbeats 4000000 in
theorem hX0_isAt (l : Launch) (D : va_G) (cA : Nat → ClassId) (ro : Nat → Option Nat) (sz : Nat) (H0 : Heap) (tx : Nat) (c0 : Int32) (k0 : Int) (T : List Int) (sg : uS) (htx : ro tx = some 0) (hk0 : c0.toInt = k0) : Met l yX0_isAt (gW yX0_isAt cX0_isAt 2 (some .boolean)) { frames := 1, cells := 0, slots := 0, locals := 20 } (zs_P D cA ro sz H0 (fun H => jU D cA ro H tx T sg) [.ref tx, .int c0]) (fun _ st oc t => t.heap = st.heap ∧ ∃ r : Int32, oc = .returned (some (.int r)) ∧ ((r.toInt = 1 ∧ lk T sg = k0) ∨ (r.toInt = 0 ∧ lk T sg ≠ k0))) 0 0 (zy_fr sz) := by
  refine zy_ofW (cc := cX0_isAt) (maxL := 2) (ret := (some .boolean)) (by decide +kernel) rfl ?_
  intro p e s m args below meth c s1 B hml hv
  obtain ⟨rfl, hh, hKn, hJ⟩ := hv
  have hx := B.exec
  have hb := B.bytes
  have hr := B.returns
  have hlk := B.notSynchronized
  have hts0 := atoms_spec (ws := gW yX0_isAt cX0_isAt 2 (some .boolean)) B.pre
  have h2 : ∀ w ∈ gT, w.before ([.ref tx, .int c0] : List Value).toArray s = true := fun w hw => hts0 w (List.mem_cons_of_mem _ hw)
  have hown : s.vm.findClass RX0 = some m.cls := findClass_of_methodNamed B.named
  have hl := lv_entry [.ref tx, .int c0] (n := 2) (Nat.le_of_ble_eq_true rfl)
  rw [lg_entry_eq]
  generalize (lg_sl [.ref tx, .int c0] ++ List.replicate (2 - (lg_sl [.ref tx, .int c0]).length) Slot.unset).toArray = ls at hl ⊢
  have b_c0 := zn_i32 c0
  have hD := zD_all h2 hKn.1
  have hcl0 := fun (idx k : Nat) (t : zt_T) (h : (idx, 0, k) ∈ gfX0) (hk : fsX0[k]? = some t) => zf_clause (ro := ro) (ms := []) h2 hown hKn.1 gfX0_ok (by decide +kernel) idx 0 k 0 0 fsX0 t h rfl hk
  have kp0 : zc_kept D RTg ro [] s.heap s.heap := zc_kept.refl
  obtain ⟨hjt, ⟨av, bv, wv, f2, f3, f4, hav, hbv, hwv⟩, hu⟩ := id hJ
  obtain ⟨tb, n, z, f0, r0, f1, hn, hc, hz⟩ := id hjt
  obtain ⟨n9, g9, n1, n2⟩ := zh_fT (k := 1) (t := (0, 0, 120)) hh htx (show RTg[0]? = some (0, 0, 0, fsX0) from rfl) rfl
  cases f1.symm.trans g9
  dsimp only at n1 n2
  clear g9
  obtain ⟨-, z9, c9, hy9⟩ := zh_arr hh r0 (show RTg[12]? = some (1, 2, 120, [(0, (-128), 127)]) from rfl)
  have hy : ∀ i, i < 120 → zt_ok ro (z i) (0, (-128), 127) := zs_arr (hc.symm.trans c9) hy9
  obtain ⟨u1, u2, u3⟩ := id hu
  have fr0 : ∀ p9 : Nat, p9 ∉ [tx] → s.heap[p9]? = s.heap[p9]? := fun _ _ => rfl
  refine lv_aload_n hx hb (eX0_isAt (0, .aload_n 0, 1) (List.mem_of_getElem? (i := 0) rfl)) rfl (lv_at hl 0 rfl) ?_
  refine tz_rowV (As := []) (st := []) (b := tx) (C := RX0) (Ts := gT) hx hb hml hown h2 (fun _ h => h) (hX0_look l D cA ro sz H0 tx T (sg) htx) ⟨rfl, rfl⟩ ⟨by decide, by decide⟩ ⟨by decide, by decide⟩ (tb_4 12 rfl rfl) (tb_1 5 rfl rfl) (tb_4 9 rfl rfl) (tb_4 10 rfl rfl) (tb_4 11 rfl rfl) (show yX0_look.cls ≠ "java/lang/invoke/MethodHandle" ∧ yX0_look.cls ≠ "java/lang/invoke/VarHandle" ∧ (parseMethodDescriptor yX0_look.desc).map (fun d => d.parameters.length) = some 0 by decide +kernel) zs_blind (zs_ob hh htx (show RTg[0]? = some (0, 0, 0, fsX0) from rfl) (zCX0 hKn.1)) (fun U hU hW => ⟨rfl, by rw [hU]; exact hh.l0, zKb s U hW.alike hKn, by rw [hU]; exact hJ⟩) hh.2.2.1 hl.1 (Nat.le_of_ble_eq_true rfl) (eX0_isAt (1, .invokevirtual 29, 3) (List.mem_of_getElem? (i := 1) rfl)) (fun r1 s1 t1 lo1 g1 f1 l1 => ?_)
  obtain ⟨z1, v1, q1, e1⟩ := f1
  cases q1
  rw [z1, g1]
  have hh1 : zh_ok D cA RTg ro sz H0 s.heap lo1 := ⟨hh.1, hh.2.1, l1, hh.2.2.2⟩
  refine W.eq (g2 := F0 m 4 ls [.int v1]) rfl ?_
  refine lv_iload_n hx hb (eX0_isAt (4, .iload_n 1, 1) (List.mem_of_getElem? (i := 2) rfl)) rfl (lv_at hl 1 rfl) ?_
  refine ff_icmp_ne hx hb (eX0_isAt (5, .if_icmp .ne 7, 3) (List.mem_of_getElem? (i := 3) rfl)) (tgt := 12) rfl (fun c2 => ?_) (fun c2 => ?_)
  · skip
    refine ff_iconst hx hb (eX0_isAt (12, .iconst 0, 1) (List.mem_of_getElem? (i := 6) rfl)) (by decide) (by decide) (fun v3 e3 => ?_)
    exact W.zret hx hb hr (zn_bool (by omega) (by omega)) (fun t ht hW => ⟨ht, _, rfl, by omega⟩) hh1.2.2.1 (eX0_isAt (13, .ireturn, 1) (List.mem_of_getElem? (i := 7) rfl))
  · skip
    refine ff_iconst hx hb (eX0_isAt (8, .iconst 1, 1) (List.mem_of_getElem? (i := 4) rfl)) (by decide) (by decide) (fun v4 e4 => ?_)
    refine lv_goto hx hb (eX0_isAt (9, .goto 4, 3) (List.mem_of_getElem? (i := 5) rfl)) (tgt := 13) rfl ?_
    exact W.zret hx hb hr (zn_bool (by omega) (by omega)) (fun t ht hW => ⟨ht, _, rfl, by omega⟩) hh1.2.2.1 (eX0_isAt (13, .ireturn, 1) (List.mem_of_getElem? (i := 7) rfl))
set_option maxRecDepth 100000 in
set_option maxHeartbeats 4000000 in
theorem hX0_atDigit (l : Launch) (D : va_G) (cA : Nat → ClassId) (ro : Nat → Option Nat) (sz : Nat) (H0 : Heap) (tx : Nat)  (T : List Int) (sg : uS) (htx : ro tx = some 0)  : Met l yX0_atDigit (gW yX0_atDigit cX0_atDigit 1 (some .boolean)) { frames := 1, cells := 0, slots := 0, locals := 21 } (zs_P D cA ro sz H0 (fun H => jU D cA ro H tx T sg) [.ref tx]) (fun _ st oc t => t.heap = st.heap ∧ ∃ r : Int32, oc = .returned (some (.int r)) ∧ ((r.toInt = 1 ∧ 0 ≤ dgF T sg) ∨ (r.toInt = 0 ∧ dgF T sg < 0))) 0 0 (zy_fr sz) := by
  refine zy_ofW (cc := cX0_atDigit) (maxL := 1) (ret := (some .boolean)) (by decide +kernel) rfl ?_
  intro p e s m args below meth c s1 B hml hv
  obtain ⟨rfl, hh, hKn, hJ⟩ := hv
  have hx := B.exec
  have hb := B.bytes
  have hr := B.returns
  have hlk := B.notSynchronized
  have hts0 := atoms_spec (ws := gW yX0_atDigit cX0_atDigit 1 (some .boolean)) B.pre
  have h2 : ∀ w ∈ gT, w.before ([.ref tx] : List Value).toArray s = true := fun w hw => hts0 w (List.mem_cons_of_mem _ hw)
  have hown : s.vm.findClass RX0 = some m.cls := findClass_of_methodNamed B.named
  have hl := lv_entry [.ref tx] (n := 1) (Nat.le_of_ble_eq_true rfl)
  rw [lg_entry_eq]
  generalize (lg_sl [.ref tx] ++ List.replicate (1 - (lg_sl [.ref tx]).length) Slot.unset).toArray = ls at hl ⊢
  have hD := zD_all h2 hKn.1
  have hcl0 := fun (idx k : Nat) (t : zt_T) (h : (idx, 0, k) ∈ gfX0) (hk : fsX0[k]? = some t) => zf_clause (ro := ro) (ms := []) h2 hown hKn.1 gfX0_ok (by decide +kernel) idx 0 k 0 0 fsX0 t h rfl hk
  have kp0 : zc_kept D RTg ro [] s.heap s.heap := zc_kept.refl
  obtain ⟨hjt, ⟨av, bv, wv, f2, f3, f4, hav, hbv, hwv⟩, hu⟩ := id hJ
  obtain ⟨tb, n, z, f0, r0, f1, hn, hc, hz⟩ := id hjt
  obtain ⟨n9, g9, n1, n2⟩ := zh_fT (k := 1) (t := (0, 0, 120)) hh htx (show RTg[0]? = some (0, 0, 0, fsX0) from rfl) rfl
  cases f1.symm.trans g9
  dsimp only at n1 n2
  clear g9
  obtain ⟨-, z9, c9, hy9⟩ := zh_arr hh r0 (show RTg[12]? = some (1, 2, 120, [(0, (-128), 127)]) from rfl)
  have hy : ∀ i, i < 120 → zt_ok ro (z i) (0, (-128), 127) := zs_arr (hc.symm.trans c9) hy9
  obtain ⟨u1, u2, u3⟩ := id hu
  have fr0 : ∀ p9 : Nat, p9 ∉ [tx] → s.heap[p9]? = s.heap[p9]? := fun _ _ => rfl
  refine lv_aload_n hx hb (eX0_atDigit (0, .aload_n 0, 1) (List.mem_of_getElem? (i := 0) rfl)) rfl (lv_at hl 0 rfl) ?_
  refine tz_rowV (As := []) (st := []) (b := tx) (C := RX0) (Ts := gT) hx hb hml hown h2 (fun _ h => h) (hX0_digit l D cA ro sz H0 tx T (sg) htx) ⟨rfl, rfl⟩ ⟨by decide, by decide⟩ ⟨by decide, by decide⟩ (tb_4 28 rfl rfl) (tb_1 5 rfl rfl) (tb_4 25 rfl rfl) (tb_4 26 rfl rfl) (tb_4 27 rfl rfl) (show yX0_digit.cls ≠ "java/lang/invoke/MethodHandle" ∧ yX0_digit.cls ≠ "java/lang/invoke/VarHandle" ∧ (parseMethodDescriptor yX0_digit.desc).map (fun d => d.parameters.length) = some 0 by decide +kernel) zs_blind (zs_ob hh htx (show RTg[0]? = some (0, 0, 0, fsX0) from rfl) (zCX0 hKn.1)) (fun U hU hW => ⟨rfl, by rw [hU]; exact hh.l0, zKb s U hW.alike hKn, by rw [hU]; exact hJ⟩) hh.2.2.1 hl.1 (Nat.le_of_ble_eq_true rfl) (eX0_atDigit (1, .invokevirtual 33, 3) (List.mem_of_getElem? (i := 1) rfl)) (fun r1 s1 t1 lo1 g1 f1 l1 => ?_)
  obtain ⟨z1, v1, q1, e1⟩ := f1
  cases q1
  rw [z1, g1]
  have hh1 : zh_ok D cA RTg ro sz H0 s.heap lo1 := ⟨hh.1, hh.2.1, l1, hh.2.2.2⟩
  refine W.eq (g2 := F0 m 4 ls [.int v1]) rfl ?_
  refine ff_if_lt hx hb (eX0_atDigit (4, .ifCond .lt 7, 3) (List.mem_of_getElem? (i := 2) rfl)) (tgt := 11) rfl (fun c2 => ?_) (fun c2 => ?_)
  · skip
    refine ff_iconst hx hb (eX0_atDigit (11, .iconst 0, 1) (List.mem_of_getElem? (i := 5) rfl)) (by decide) (by decide) (fun v3 e3 => ?_)
    exact W.zret hx hb hr (zn_bool (by omega) (by omega)) (fun t ht hW => ⟨ht, _, rfl, by omega⟩) hh1.2.2.1 (eX0_atDigit (12, .ireturn, 1) (List.mem_of_getElem? (i := 6) rfl))
  · skip
    refine ff_iconst hx hb (eX0_atDigit (7, .iconst 1, 1) (List.mem_of_getElem? (i := 3) rfl)) (by decide) (by decide) (fun v4 e4 => ?_)
    refine lv_goto hx hb (eX0_atDigit (8, .goto 4, 3) (List.mem_of_getElem? (i := 4) rfl)) (tgt := 12) rfl ?_
    exact W.zret hx hb hr (zn_bool (by omega) (by omega)) (fun t ht hW => ⟨ht, _, rfl, by omega⟩) hh1.2.2.1 (eX0_atDigit (12, .ireturn, 1) (List.mem_of_getElem? (i := 6) rfl))
set_option maxRecDepth 100000 in
set_option maxHeartbeats 4000000 in
theorem hX0_atLetter (l : Launch) (D : va_G) (cA : Nat → ClassId) (ro : Nat → Option Nat) (sz : Nat) (H0 : Heap) (tx : Nat)  (T : List Int) (sg : uS) (htx : ro tx = some 0)  : Met l yX0_atLetter (gW yX0_atLetter cX0_atLetter 2 (some .boolean)) { frames := 1, cells := 0, slots := 0, locals := 20 } (zs_P D cA ro sz H0 (fun H => jU D cA ro H tx T sg) [.ref tx]) (fun _ st oc t => t.heap = st.heap ∧ ∃ r : Int32, oc = .returned (some (.int r)) ∧ ((r.toInt = 1 ∧ isT (lk T sg)) ∨ (r.toInt = 0 ∧ ¬ isT (lk T sg)))) 0 0 (zy_fr sz) := by
  refine zy_ofW (cc := cX0_atLetter) (maxL := 2) (ret := (some .boolean)) (by decide +kernel) rfl ?_
  intro p e s m args below meth c s1 B hml hv
  obtain ⟨rfl, hh, hKn, hJ⟩ := hv
  have hx := B.exec
  have hb := B.bytes
  have hr := B.returns
  have hlk := B.notSynchronized
  have hts0 := atoms_spec (ws := gW yX0_atLetter cX0_atLetter 2 (some .boolean)) B.pre
  have h2 : ∀ w ∈ gT, w.before ([.ref tx] : List Value).toArray s = true := fun w hw => hts0 w (List.mem_cons_of_mem _ hw)
  have hown : s.vm.findClass RX0 = some m.cls := findClass_of_methodNamed B.named
  have hl := lv_entry [.ref tx] (n := 2) (Nat.le_of_ble_eq_true rfl)
  rw [lg_entry_eq]
  generalize (lg_sl [.ref tx] ++ List.replicate (2 - (lg_sl [.ref tx]).length) Slot.unset).toArray = ls at hl ⊢
  have hD := zD_all h2 hKn.1
  have hcl0 := fun (idx k : Nat) (t : zt_T) (h : (idx, 0, k) ∈ gfX0) (hk : fsX0[k]? = some t) => zf_clause (ro := ro) (ms := []) h2 hown hKn.1 gfX0_ok (by decide +kernel) idx 0 k 0 0 fsX0 t h rfl hk
  have kp0 : zc_kept D RTg ro [] s.heap s.heap := zc_kept.refl
  obtain ⟨hjt, ⟨av, bv, wv, f2, f3, f4, hav, hbv, hwv⟩, hu⟩ := id hJ
  obtain ⟨tb, n, z, f0, r0, f1, hn, hc, hz⟩ := id hjt
  obtain ⟨n9, g9, n1, n2⟩ := zh_fT (k := 1) (t := (0, 0, 120)) hh htx (show RTg[0]? = some (0, 0, 0, fsX0) from rfl) rfl
  cases f1.symm.trans g9
  dsimp only at n1 n2
  clear g9
  obtain ⟨-, z9, c9, hy9⟩ := zh_arr hh r0 (show RTg[12]? = some (1, 2, 120, [(0, (-128), 127)]) from rfl)
  have hy : ∀ i, i < 120 → zt_ok ro (z i) (0, (-128), 127) := zs_arr (hc.symm.trans c9) hy9
  obtain ⟨u1, u2, u3⟩ := id hu
  have fr0 : ∀ p9 : Nat, p9 ∉ [tx] → s.heap[p9]? = s.heap[p9]? := fun _ _ => rfl
  refine lv_aload_n hx hb (eX0_atLetter (0, .aload_n 0, 1) (List.mem_of_getElem? (i := 0) rfl)) rfl (lv_at hl 0 rfl) ?_
  refine tz_rowV (As := []) (st := []) (b := tx) (C := RX0) (Ts := gT) hx hb hml hown h2 (fun _ h => h) (hX0_look l D cA ro sz H0 tx T (sg) htx) ⟨rfl, rfl⟩ ⟨by decide, by decide⟩ ⟨by decide, by decide⟩ (tb_4 12 rfl rfl) (tb_1 5 rfl rfl) (tb_4 9 rfl rfl) (tb_4 10 rfl rfl) (tb_4 11 rfl rfl) (show yX0_look.cls ≠ "java/lang/invoke/MethodHandle" ∧ yX0_look.cls ≠ "java/lang/invoke/VarHandle" ∧ (parseMethodDescriptor yX0_look.desc).map (fun d => d.parameters.length) = some 0 by decide +kernel) zs_blind (zs_ob hh htx (show RTg[0]? = some (0, 0, 0, fsX0) from rfl) (zCX0 hKn.1)) (fun U hU hW => ⟨rfl, by rw [hU]; exact hh.l0, zKb s U hW.alike hKn, by rw [hU]; exact hJ⟩) hh.2.2.1 hl.1 (Nat.le_of_ble_eq_true rfl) (eX0_atLetter (1, .invokevirtual 29, 3) (List.mem_of_getElem? (i := 1) rfl)) (fun r1 s1 t1 lo1 g1 f1 l1 => ?_)
  obtain ⟨z1, v1, q1, e1⟩ := f1
  cases q1
  rw [z1, g1]
  have hh1 : zh_ok D cA RTg ro sz H0 s.heap lo1 := ⟨hh.1, hh.2.1, l1, hh.2.2.2⟩
  refine W.eq (g2 := F0 m 4 ls [.int v1]) rfl ?_
  refine lv_istore_n hx hb (eX0_atLetter (4, .istore_n 1, 1) (List.mem_of_getElem? (i := 2) rfl)) rfl hl (by decide) rfl (fun ls2 hl2 => ?_)
  refine lv_iload_n hx hb (eX0_atLetter (5, .iload_n 1, 1) (List.mem_of_getElem? (i := 3) rfl)) rfl (lv_at hl2 0 rfl) ?_
  refine ff_bipush hx hb (eX0_atLetter (6, .bipush 65, 2) (List.mem_of_getElem? (i := 4) rfl)) (by decide) (by decide) (fun v3 e3 => ?_)
  refine ff_icmp_lt hx hb (eX0_atLetter (8, .if_icmp .lt 9, 3) (List.mem_of_getElem? (i := 5) rfl)) (tgt := 17) rfl (fun c4 => ?_) (fun c4 => ?_)
  · skip
    refine lv_iload_n hx hb (eX0_atLetter (17, .iload_n 1, 1) (List.mem_of_getElem? (i := 9) rfl)) rfl (lv_at hl2 0 rfl) ?_
    refine ff_bipush hx hb (eX0_atLetter (18, .bipush 97, 2) (List.mem_of_getElem? (i := 10) rfl)) (by decide) (by decide) (fun v5 e5 => ?_)
    refine ff_icmp_lt hx hb (eX0_atLetter (20, .if_icmp .lt 13, 3) (List.mem_of_getElem? (i := 11) rfl)) (tgt := 33) rfl (fun c6 => ?_) (fun c6 => ?_)
    · skip
      refine ff_iconst hx hb (eX0_atLetter (33, .iconst 0, 1) (List.mem_of_getElem? (i := 17) rfl)) (by decide) (by decide) (fun v7 e7 => ?_)
      exact W.zret hx hb hr (zn_bool (by omega) (by omega)) (fun t ht hW => ⟨ht, _, rfl, by unfold isT; omega⟩) hh1.2.2.1 (eX0_atLetter (34, .ireturn, 1) (List.mem_of_getElem? (i := 18) rfl))
    · skip
      refine lv_iload_n hx hb (eX0_atLetter (23, .iload_n 1, 1) (List.mem_of_getElem? (i := 12) rfl)) rfl (lv_at hl2 0 rfl) ?_
      refine ff_bipush hx hb (eX0_atLetter (24, .bipush 122, 2) (List.mem_of_getElem? (i := 13) rfl)) (by decide) (by decide) (fun v8 e8 => ?_)
      refine ff_icmp_gt hx hb (eX0_atLetter (26, .if_icmp .gt 7, 3) (List.mem_of_getElem? (i := 14) rfl)) (tgt := 33) rfl (fun c9 => ?_) (fun c9 => ?_)
      · skip
        refine ff_iconst hx hb (eX0_atLetter (33, .iconst 0, 1) (List.mem_of_getElem? (i := 17) rfl)) (by decide) (by decide) (fun v10 e10 => ?_)
        exact W.zret hx hb hr (zn_bool (by omega) (by omega)) (fun t ht hW => ⟨ht, _, rfl, by unfold isT; omega⟩) hh1.2.2.1 (eX0_atLetter (34, .ireturn, 1) (List.mem_of_getElem? (i := 18) rfl))
      · skip
        refine ff_iconst hx hb (eX0_atLetter (29, .iconst 1, 1) (List.mem_of_getElem? (i := 15) rfl)) (by decide) (by decide) (fun v11 e11 => ?_)
        refine lv_goto hx hb (eX0_atLetter (30, .goto 4, 3) (List.mem_of_getElem? (i := 16) rfl)) (tgt := 34) rfl ?_
        exact W.zret hx hb hr (zn_bool (by omega) (by omega)) (fun t ht hW => ⟨ht, _, rfl, by unfold isT; omega⟩) hh1.2.2.1 (eX0_atLetter (34, .ireturn, 1) (List.mem_of_getElem? (i := 18) rfl))
  · skip
    refine lv_iload_n hx hb (eX0_atLetter (11, .iload_n 1, 1) (List.mem_of_getElem? (i := 6) rfl)) rfl (lv_at hl2 0 rfl) ?_
    refine ff_bipush hx hb (eX0_atLetter (12, .bipush 90, 2) (List.mem_of_getElem? (i := 7) rfl)) (by decide) (by decide) (fun v12 e12 => ?_)
    refine ff_icmp_le hx hb (eX0_atLetter (14, .if_icmp .le 15, 3) (List.mem_of_getElem? (i := 8) rfl)) (tgt := 29) rfl (fun c13 => ?_) (fun c13 => ?_)
    · skip
      refine ff_iconst hx hb (eX0_atLetter (29, .iconst 1, 1) (List.mem_of_getElem? (i := 15) rfl)) (by decide) (by decide) (fun v14 e14 => ?_)
      refine lv_goto hx hb (eX0_atLetter (30, .goto 4, 3) (List.mem_of_getElem? (i := 16) rfl)) (tgt := 34) rfl ?_
      exact W.zret hx hb hr (zn_bool (by omega) (by omega)) (fun t ht hW => ⟨ht, _, rfl, by unfold isT; omega⟩) hh1.2.2.1 (eX0_atLetter (34, .ireturn, 1) (List.mem_of_getElem? (i := 18) rfl))
    · skip
      refine lv_iload_n hx hb (eX0_atLetter (17, .iload_n 1, 1) (List.mem_of_getElem? (i := 9) rfl)) rfl (lv_at hl2 0 rfl) ?_
      refine ff_bipush hx hb (eX0_atLetter (18, .bipush 97, 2) (List.mem_of_getElem? (i := 10) rfl)) (by decide) (by decide) (fun v15 e15 => ?_)
      refine ff_icmp_lt hx hb (eX0_atLetter (20, .if_icmp .lt 13, 3) (List.mem_of_getElem? (i := 11) rfl)) (tgt := 33) rfl (fun c16 => ?_) (fun c16 => ?_)
      · skip
        refine ff_iconst hx hb (eX0_atLetter (33, .iconst 0, 1) (List.mem_of_getElem? (i := 17) rfl)) (by decide) (by decide) (fun v17 e17 => ?_)
        exact W.zret hx hb hr (zn_bool (by omega) (by omega)) (fun t ht hW => ⟨ht, _, rfl, by unfold isT; omega⟩) hh1.2.2.1 (eX0_atLetter (34, .ireturn, 1) (List.mem_of_getElem? (i := 18) rfl))
      · skip
        refine lv_iload_n hx hb (eX0_atLetter (23, .iload_n 1, 1) (List.mem_of_getElem? (i := 12) rfl)) rfl (lv_at hl2 0 rfl) ?_
        refine ff_bipush hx hb (eX0_atLetter (24, .bipush 122, 2) (List.mem_of_getElem? (i := 13) rfl)) (by decide) (by decide) (fun v18 e18 => ?_)
        refine ff_icmp_gt hx hb (eX0_atLetter (26, .if_icmp .gt 7, 3) (List.mem_of_getElem? (i := 14) rfl)) (tgt := 33) rfl (fun c19 => ?_) (fun c19 => ?_)
        · skip
          refine ff_iconst hx hb (eX0_atLetter (33, .iconst 0, 1) (List.mem_of_getElem? (i := 17) rfl)) (by decide) (by decide) (fun v20 e20 => ?_)
          exact W.zret hx hb hr (zn_bool (by omega) (by omega)) (fun t ht hW => ⟨ht, _, rfl, by unfold isT; omega⟩) hh1.2.2.1 (eX0_atLetter (34, .ireturn, 1) (List.mem_of_getElem? (i := 18) rfl))
        · skip
          refine ff_iconst hx hb (eX0_atLetter (29, .iconst 1, 1) (List.mem_of_getElem? (i := 15) rfl)) (by decide) (by decide) (fun v21 e21 => ?_)
          refine lv_goto hx hb (eX0_atLetter (30, .goto 4, 3) (List.mem_of_getElem? (i := 16) rfl)) (tgt := 34) rfl ?_
          exact W.zret hx hb hr (zn_bool (by omega) (by omega)) (fun t ht hW => ⟨ht, _, rfl, by unfold isT; omega⟩) hh1.2.2.1 (eX0_atLetter (34, .ireturn, 1) (List.mem_of_getElem? (i := 18) rfl))
theorem dgF_iff {T : List Int} {s : uS} : 0 ≤ dgF T s ↔ isD (lk T s) := ⟨fun h => Decidable.byContradiction fun g => absurd (dgF_lt.mpr g) (by omega), fun h => by have := dgF_lt (T := T) (s := s); apply Decidable.byContradiction; intro g; exact this.mp (by omega) h⟩
set_option maxRecDepth 100000 in
set_option maxHeartbeats 4000000 in
theorem hX0_atNameSign (l : Launch) (D : va_G) (cA : Nat → ClassId) (ro : Nat → Option Nat) (sz : Nat) (H0 : Heap) (tx : Nat)  (T : List Int) (sg : uS) (htx : ro tx = some 0)  : Met l yX0_atNameSign (gW yX0_atNameSign cX0_atNameSign 1 (some .boolean)) { frames := 2, cells := 0, slots := 0, locals := 41 } (zs_P D cA ro sz H0 (fun H => jU D cA ro H tx T sg) [.ref tx]) (fun _ st oc t => t.heap = st.heap ∧ ∃ r : Int32, oc = .returned (some (.int r)) ∧ ((r.toInt = 1 ∧ (isD (lk T sg) ∨ lk T sg = 43 ∨ lk T sg = 45)) ∨ (r.toInt = 0 ∧ ¬ (isD (lk T sg) ∨ lk T sg = 43 ∨ lk T sg = 45)))) 0 0 (zy_fr sz) := by
  refine zy_ofW (cc := cX0_atNameSign) (maxL := 1) (ret := (some .boolean)) (by decide +kernel) rfl ?_
  intro p e s m args below meth c s1 B hml hv
  obtain ⟨rfl, hh, hKn, hJ⟩ := hv
  have hx := B.exec
  have hb := B.bytes
  have hr := B.returns
  have hlk := B.notSynchronized
  have hts0 := atoms_spec (ws := gW yX0_atNameSign cX0_atNameSign 1 (some .boolean)) B.pre
  have h2 : ∀ w ∈ gT, w.before ([.ref tx] : List Value).toArray s = true := fun w hw => hts0 w (List.mem_cons_of_mem _ hw)
  have hown : s.vm.findClass RX0 = some m.cls := findClass_of_methodNamed B.named
  have hl := lv_entry [.ref tx] (n := 1) (Nat.le_of_ble_eq_true rfl)
  rw [lg_entry_eq]
  generalize (lg_sl [.ref tx] ++ List.replicate (1 - (lg_sl [.ref tx]).length) Slot.unset).toArray = ls at hl ⊢
  have hD := zD_all h2 hKn.1
  have hcl0 := fun (idx k : Nat) (t : zt_T) (h : (idx, 0, k) ∈ gfX0) (hk : fsX0[k]? = some t) => zf_clause (ro := ro) (ms := []) h2 hown hKn.1 gfX0_ok (by decide +kernel) idx 0 k 0 0 fsX0 t h rfl hk
  have kp0 : zc_kept D RTg ro [] s.heap s.heap := zc_kept.refl
  obtain ⟨hjt, ⟨av, bv, wv, f2, f3, f4, hav, hbv, hwv⟩, hu⟩ := id hJ
  obtain ⟨tb, n, z, f0, r0, f1, hn, hc, hz⟩ := id hjt
  obtain ⟨n9, g9, n1, n2⟩ := zh_fT (k := 1) (t := (0, 0, 120)) hh htx (show RTg[0]? = some (0, 0, 0, fsX0) from rfl) rfl
  cases f1.symm.trans g9
  dsimp only at n1 n2
  clear g9
  obtain ⟨-, z9, c9, hy9⟩ := zh_arr hh r0 (show RTg[12]? = some (1, 2, 120, [(0, (-128), 127)]) from rfl)
  have hy : ∀ i, i < 120 → zt_ok ro (z i) (0, (-128), 127) := zs_arr (hc.symm.trans c9) hy9
  obtain ⟨u1, u2, u3⟩ := id hu
  have fr0 : ∀ p9 : Nat, p9 ∉ [tx] → s.heap[p9]? = s.heap[p9]? := fun _ _ => rfl
  refine lv_aload_n hx hb (eX0_atNameSign (0, .aload_n 0, 1) (List.mem_of_getElem? (i := 0) rfl)) rfl (lv_at hl 0 rfl) ?_
  refine tz_rowV (As := []) (st := []) (b := tx) (C := RX0) (Ts := gT) hx hb hml hown h2 (fun _ h => h) (hX0_atDigit l D cA ro sz H0 tx T (sg) htx) ⟨rfl, rfl⟩ ⟨by decide, by decide⟩ ⟨by decide, by decide⟩ (tb_4 24 rfl rfl) (tb_1 5 rfl rfl) (tb_4 21 rfl rfl) (tb_4 22 rfl rfl) (tb_4 23 rfl rfl) (show yX0_atDigit.cls ≠ "java/lang/invoke/MethodHandle" ∧ yX0_atDigit.cls ≠ "java/lang/invoke/VarHandle" ∧ (parseMethodDescriptor yX0_atDigit.desc).map (fun d => d.parameters.length) = some 0 by decide +kernel) zs_blind (zs_ob hh htx (show RTg[0]? = some (0, 0, 0, fsX0) from rfl) (zCX0 hKn.1)) (fun U hU hW => ⟨rfl, by rw [hU]; exact hh.l0, zKb s U hW.alike hKn, by rw [hU]; exact hJ⟩) hh.2.2.1 hl.1 (Nat.le_of_ble_eq_true rfl) (eX0_atNameSign (1, .invokevirtual 36, 3) (List.mem_of_getElem? (i := 1) rfl)) (fun r1 s1 t1 lo1 g1 f1 l1 => ?_)
  obtain ⟨z1, v1, q1, e1⟩ := f1
  cases q1
  rw [z1, g1]
  have hh1 : zh_ok D cA RTg ro sz H0 s.heap lo1 := ⟨hh.1, hh.2.1, l1, hh.2.2.2⟩
  refine W.eq (g2 := F0 m 4 ls [.int v1]) rfl ?_
  refine ff_if_ne hx hb (eX0_atNameSign (4, .ifCond .ne 21, 3) (List.mem_of_getElem? (i := 2) rfl)) (tgt := 25) rfl (fun c2 => ?_) (fun c2 => ?_)
  · skip
    refine ff_iconst hx hb (eX0_atNameSign (25, .iconst 1, 1) (List.mem_of_getElem? (i := 11) rfl)) (by decide) (by decide) (fun v3 e3 => ?_)
    refine lv_goto hx hb (eX0_atNameSign (26, .goto 4, 3) (List.mem_of_getElem? (i := 12) rfl)) (tgt := 30) rfl ?_
    exact W.zret hx hb hr (zn_bool (by omega) (by omega)) (fun t ht hW => ⟨ht, _, rfl, by rw [← dgF_iff]; omega⟩) hh1.2.2.1 (eX0_atNameSign (30, .ireturn, 1) (List.mem_of_getElem? (i := 14) rfl))
  · skip
    refine lv_aload_n hx hb (eX0_atNameSign (7, .aload_n 0, 1) (List.mem_of_getElem? (i := 3) rfl)) rfl (lv_at hl 0 rfl) ?_
    refine ff_bipush hx hb (eX0_atNameSign (8, .bipush 43, 2) (List.mem_of_getElem? (i := 4) rfl)) (by decide) (by decide) (fun v4 e4 => ?_)
    refine tz_rowV (As := [.int v4]) (st := []) (b := tx) (C := RX0) (Ts := gT) hx hb hml hown h2 (fun _ h => h) (hX0_isAt l D cA ro sz H0 tx v4 43 T (sg) htx (by omega)) ⟨rfl, rfl⟩ ⟨by decide, by decide⟩ ⟨by decide, by decide⟩ (tb_4 32 rfl rfl) (tb_1 5 rfl rfl) (tb_4 29 rfl rfl) (tb_4 30 rfl rfl) (tb_4 31 rfl rfl) (show yX0_isAt.cls ≠ "java/lang/invoke/MethodHandle" ∧ yX0_isAt.cls ≠ "java/lang/invoke/VarHandle" ∧ (parseMethodDescriptor yX0_isAt.desc).map (fun d => d.parameters.length) = some 1 by decide +kernel) zs_blind (zs_ob hh1 htx (show RTg[0]? = some (0, 0, 0, fsX0) from rfl) (zCX0 hKn.1)) (fun U hU hW => ⟨rfl, by rw [hU]; exact hh1.l0, zKb s U hW.alike hKn, by rw [hU]; exact hJ⟩) hh1.2.2.1 hl.1 (Nat.le_of_ble_eq_true rfl) (eX0_atNameSign (10, .invokevirtual 40, 3) (List.mem_of_getElem? (i := 5) rfl)) (fun r5 s5 t5 lo5 g5 f5 l5 => ?_)
    obtain ⟨z5, v5, q5, e5⟩ := f5
    cases q5
    rw [z5, g5]
    have hh5 : zh_ok D cA RTg ro sz H0 s.heap lo5 := ⟨hh1.1, hh1.2.1, l5, hh1.2.2.2⟩
    refine W.eq (g2 := F0 m 13 ls [.int v5]) rfl ?_
    refine ff_if_ne hx hb (eX0_atNameSign (13, .ifCond .ne 12, 3) (List.mem_of_getElem? (i := 6) rfl)) (tgt := 25) rfl (fun c6 => ?_) (fun c6 => ?_)
    · skip
      refine ff_iconst hx hb (eX0_atNameSign (25, .iconst 1, 1) (List.mem_of_getElem? (i := 11) rfl)) (by decide) (by decide) (fun v7 e7 => ?_)
      refine lv_goto hx hb (eX0_atNameSign (26, .goto 4, 3) (List.mem_of_getElem? (i := 12) rfl)) (tgt := 30) rfl ?_
      exact W.zret hx hb hr (zn_bool (by omega) (by omega)) (fun t ht hW => ⟨ht, _, rfl, by rw [← dgF_iff]; omega⟩) hh5.2.2.1 (eX0_atNameSign (30, .ireturn, 1) (List.mem_of_getElem? (i := 14) rfl))
    · skip
      refine lv_aload_n hx hb (eX0_atNameSign (16, .aload_n 0, 1) (List.mem_of_getElem? (i := 7) rfl)) rfl (lv_at hl 0 rfl) ?_
      refine ff_bipush hx hb (eX0_atNameSign (17, .bipush 45, 2) (List.mem_of_getElem? (i := 8) rfl)) (by decide) (by decide) (fun v8 e8 => ?_)
      refine tz_rowV (As := [.int v8]) (st := []) (b := tx) (C := RX0) (Ts := gT) hx hb hml hown h2 (fun _ h => h) (hX0_isAt l D cA ro sz H0 tx v8 45 T (sg) htx (by omega)) ⟨rfl, rfl⟩ ⟨by decide, by decide⟩ ⟨by decide, by decide⟩ (tb_4 32 rfl rfl) (tb_1 5 rfl rfl) (tb_4 29 rfl rfl) (tb_4 30 rfl rfl) (tb_4 31 rfl rfl) (show yX0_isAt.cls ≠ "java/lang/invoke/MethodHandle" ∧ yX0_isAt.cls ≠ "java/lang/invoke/VarHandle" ∧ (parseMethodDescriptor yX0_isAt.desc).map (fun d => d.parameters.length) = some 1 by decide +kernel) zs_blind (zs_ob hh5 htx (show RTg[0]? = some (0, 0, 0, fsX0) from rfl) (zCX0 hKn.1)) (fun U hU hW => ⟨rfl, by rw [hU]; exact hh5.l0, zKb s U hW.alike hKn, by rw [hU]; exact hJ⟩) hh5.2.2.1 hl.1 (Nat.le_of_ble_eq_true rfl) (eX0_atNameSign (19, .invokevirtual 40, 3) (List.mem_of_getElem? (i := 9) rfl)) (fun r9 s9 t9 lo9 g9 f9 l9 => ?_)
      obtain ⟨z9, v9, q9, e9⟩ := f9
      cases q9
      rw [z9, g9]
      have hh9 : zh_ok D cA RTg ro sz H0 s.heap lo9 := ⟨hh5.1, hh5.2.1, l9, hh5.2.2.2⟩
      refine W.eq (g2 := F0 m 22 ls [.int v9]) rfl ?_
      refine ff_if_eq hx hb (eX0_atNameSign (22, .ifCond .eq 7, 3) (List.mem_of_getElem? (i := 10) rfl)) (tgt := 29) rfl (fun c10 => ?_) (fun c10 => ?_)
      · skip
        refine ff_iconst hx hb (eX0_atNameSign (29, .iconst 0, 1) (List.mem_of_getElem? (i := 13) rfl)) (by decide) (by decide) (fun v11 e11 => ?_)
        exact W.zret hx hb hr (zn_bool (by omega) (by omega)) (fun t ht hW => ⟨ht, _, rfl, by rw [← dgF_iff]; omega⟩) hh9.2.2.1 (eX0_atNameSign (30, .ireturn, 1) (List.mem_of_getElem? (i := 14) rfl))
      · skip
        refine ff_iconst hx hb (eX0_atNameSign (25, .iconst 1, 1) (List.mem_of_getElem? (i := 11) rfl)) (by decide) (by decide) (fun v12 e12 => ?_)
        refine lv_goto hx hb (eX0_atNameSign (26, .goto 4, 3) (List.mem_of_getElem? (i := 12) rfl)) (tgt := 30) rfl ?_
        exact W.zret hx hb hr (zn_bool (by omega) (by omega)) (fun t ht hW => ⟨ht, _, rfl, by rw [← dgF_iff]; omega⟩) hh9.2.2.1 (eX0_atNameSign (30, .ireturn, 1) (List.mem_of_getElem? (i := 14) rfl))
set_option maxRecDepth 100000 in
set_option maxHeartbeats 4000000 in
theorem hX0_skip (l : Launch) (D : va_G) (cA : Nat → ClassId) (ro : Nat → Option Nat) (sz : Nat) (H0 : Heap) (tx : Nat)  (T : List Int) (sg : uS) (htx : ro tx = some 0) (hlt : sg.1 < (T.length : Int)) : Met l yX0_skip (gW yX0_skip cX0_skip 1 none) { frames := 0, cells := 0, slots := 0, locals := 0 } (zs_P D cA ro sz H0 (fun H => jU D cA ro H tx T sg) [.ref tx]) (ku_V D cA ro sz H0 uM [tx] tx T (sg.1 + 1, sg.2)) 0 0 (zy_fr sz) := by
  refine zy_ofW (cc := cX0_skip) (maxL := 1) (ret := none) (by decide +kernel) rfl ?_
  intro p e s m args below meth c s1 B hml hv
  obtain ⟨rfl, hh, hKn, hJ⟩ := hv
  have hx := B.exec
  have hb := B.bytes
  have hr := B.returns
  have hlk := B.notSynchronized
  have hts0 := atoms_spec (ws := gW yX0_skip cX0_skip 1 none) B.pre
  have h2 : ∀ w ∈ gT, w.before ([.ref tx] : List Value).toArray s = true := fun w hw => hts0 w (List.mem_cons_of_mem _ hw)
  have hown : s.vm.findClass RX0 = some m.cls := findClass_of_methodNamed B.named
  have hl := lv_entry [.ref tx] (n := 1) (Nat.le_of_ble_eq_true rfl)
  rw [lg_entry_eq]
  generalize (lg_sl [.ref tx] ++ List.replicate (1 - (lg_sl [.ref tx]).length) Slot.unset).toArray = ls at hl ⊢
  have hD := zD_all h2 hKn.1
  have hcl0 := fun (idx k : Nat) (t : zt_T) (h : (idx, 0, k) ∈ gfX0) (hk : fsX0[k]? = some t) => zf_clause (ro := ro) (ms := uM) h2 hown hKn.1 gfX0_ok (by decide +kernel) idx 0 k 0 0 fsX0 t h rfl hk
  have kp0 : zc_kept D RTg ro uM s.heap s.heap := zc_kept.refl
  obtain ⟨hjt, ⟨av, bv, wv, f2, f3, f4, hav, hbv, hwv⟩, hu⟩ := id hJ
  obtain ⟨tb, n, z, f0, r0, f1, hn, hc, hz⟩ := id hjt
  obtain ⟨n9, g9, n1, n2⟩ := zh_fT (k := 1) (t := (0, 0, 120)) hh htx (show RTg[0]? = some (0, 0, 0, fsX0) from rfl) rfl
  cases f1.symm.trans g9
  dsimp only at n1 n2
  clear g9
  obtain ⟨-, z9, c9, hy9⟩ := zh_arr hh r0 (show RTg[12]? = some (1, 2, 120, [(0, (-128), 127)]) from rfl)
  have hy : ∀ i, i < 120 → zt_ok ro (z i) (0, (-128), 127) := zs_arr (hc.symm.trans c9) hy9
  obtain ⟨u1, u2, u3⟩ := id hu
  have fr0 : ∀ p9 : Nat, p9 ∉ [tx] → s.heap[p9]? = s.heap[p9]? := fun _ _ => rfl
  refine lv_aload_n hx hb (eX0_skip (0, .aload_n 0, 1) (List.mem_of_getElem? (i := 0) rfl)) rfl (lv_at hl 0 rfl) ?_
  refine lv_dup hx hb (eX0_skip (1, .dup, 1) (List.mem_of_getElem? (i := 1) rfl)) rfl ?_
  refine tz_get (r := 0) (k := 2) (t := (0, (-2147483648), 2147483647)) hx hb hh htx rfl rfl (hcl0 19 2 (0, (-2147483648), 2147483647) (by decide) rfl).1 f2 (eX0_skip (2, .getfield 19, 3) (List.mem_of_getElem? (i := 2) rfl)) ?_
  refine ff_iconst hx hb (eX0_skip (5, .iconst 1, 1) (List.mem_of_getElem? (i := 3) rfl)) (by decide) (by decide) (fun v1 e1 => ?_)
  refine ff_iadd hx hb (eX0_skip (6, .iadd, 1) (List.mem_of_getElem? (i := 4) rfl)) (by omega) (by omega) (fun v2 e2 => ?_)
  refine tz_put (r := 0) (k := 2) (t := (0, (-2147483648), 2147483647)) hx hb hD hh htx rfl rfl ((hcl0 19 2 (0, (-2147483648), 2147483647) (by decide) rfl).2 (by decide)) (tz_i (zn_i32 _).1 (zn_i32 _).2) (eX0_skip (7, .putfield 19, 3) (List.mem_of_getElem? (i := 5) rfl)) (fun H3 lo3 hh3 hf3 hk3 _ hq3 => ?_)
  have mf3_tx_0 := (hk3.1 tx 0 0 0 0 fsX0 htx rfl (by decide) (by decide)).trans f0
  have mf3_tx_1 := (hk3.1 tx 0 1 0 0 fsX0 htx rfl (by decide) (by decide)).trans f1
  have mf3_tx_3 := (hk3.1 tx 0 3 0 0 fsX0 htx rfl (by decide) (by decide)).trans f3
  have mf3_tx_4 := (hk3.1 tx 0 4 0 0 fsX0 htx rfl (by decide) (by decide)).trans f4
  have mc3_tb := (hk3.2 tb 12 0 2 120 _ r0 rfl (by decide)).trans hc
  have kp3 := kp0.trans (hk3.mono (ms' := uM) (fun x hx => by cases List.mem_singleton.mp hx; decide))
  have jm3 := (hJ.1).kept htx hk3 (by decide) (by decide) (by decide)
  have fr3 : ∀ p9 : Nat, p9 ∉ [tx] → H3[p9]? = s.heap[p9]? := fun p9 h9 => (hq3 p9 (fun e9 => h9 (by rw [e9]; exact List.mem_cons_self))).trans (fr0 p9 h9)
  have hfin : ((sg.1 + 1, sg.2) : uS) = (sg.1 + 1, sg.2) := rfl
  exact W.vret hx hb hr (fun t ht hW => ⟨rfl, by rw [ht]; exact hh3.l0, by rw [ht]; exact kp3, by rw [ht, hfin]; exact ⟨jm3, ⟨_, _, _, hf3, mf3_tx_3, mf3_tx_4, by show _ = sg.1 + 1; omega, hbv, hwv⟩, by unfold uOK; dsimp only; omega⟩, by rw [ht]; exact fr3⟩) hh3.2.2.1 (eX0_skip (10, .return_, 1) (List.mem_of_getElem? (i := 6) rfl))
set_option maxRecDepth 100000 in
set_option maxHeartbeats 4000000 in
theorem hX0_take (l : Launch) (D : va_G) (cA : Nat → ClassId) (ro : Nat → Option Nat) (sz : Nat) (H0 : Heap) (tx : Nat) (c0 : Int32) (k0 : Int) (T : List Int) (sg : uS) (htx : ro tx = some 0) (hk0 : c0.toInt = k0) (hk1 : 0 ≤ k0) : Met l yX0_take (gW yX0_take cX0_take 2 (some .boolean)) { frames := 1, cells := 0, slots := 0, locals := 20 } (zs_P D cA ro sz H0 (fun H => jU D cA ro H tx T sg) [.ref tx, .int c0]) (ku_Q D cA ro sz H0 uM [tx] tx T (tkF T k0 sg)) 0 0 (zy_fr sz) := by
  refine zy_ofW (cc := cX0_take) (maxL := 2) (ret := (some .boolean)) (by decide +kernel) rfl ?_
  intro p e s m args below meth c s1 B hml hv
  obtain ⟨rfl, hh, hKn, hJ⟩ := hv
  have hx := B.exec
  have hb := B.bytes
  have hr := B.returns
  have hlk := B.notSynchronized
  have hts0 := atoms_spec (ws := gW yX0_take cX0_take 2 (some .boolean)) B.pre
  have h2 : ∀ w ∈ gT, w.before ([.ref tx, .int c0] : List Value).toArray s = true := fun w hw => hts0 w (List.mem_cons_of_mem _ hw)
  have hown : s.vm.findClass RX0 = some m.cls := findClass_of_methodNamed B.named
  have hl := lv_entry [.ref tx, .int c0] (n := 2) (Nat.le_of_ble_eq_true rfl)
  rw [lg_entry_eq]
  generalize (lg_sl [.ref tx, .int c0] ++ List.replicate (2 - (lg_sl [.ref tx, .int c0]).length) Slot.unset).toArray = ls at hl ⊢
  have b_c0 := zn_i32 c0
  have hD := zD_all h2 hKn.1
  have hcl0 := fun (idx k : Nat) (t : zt_T) (h : (idx, 0, k) ∈ gfX0) (hk : fsX0[k]? = some t) => zf_clause (ro := ro) (ms := uM) h2 hown hKn.1 gfX0_ok (by decide +kernel) idx 0 k 0 0 fsX0 t h rfl hk
  have kp0 : zc_kept D RTg ro uM s.heap s.heap := zc_kept.refl
  obtain ⟨hjt, ⟨av, bv, wv, f2, f3, f4, hav, hbv, hwv⟩, hu⟩ := id hJ
  obtain ⟨tb, n, z, f0, r0, f1, hn, hc, hz⟩ := id hjt
  obtain ⟨n9, g9, n1, n2⟩ := zh_fT (k := 1) (t := (0, 0, 120)) hh htx (show RTg[0]? = some (0, 0, 0, fsX0) from rfl) rfl
  cases f1.symm.trans g9
  dsimp only at n1 n2
  clear g9
  obtain ⟨-, z9, c9, hy9⟩ := zh_arr hh r0 (show RTg[12]? = some (1, 2, 120, [(0, (-128), 127)]) from rfl)
  have hy : ∀ i, i < 120 → zt_ok ro (z i) (0, (-128), 127) := zs_arr (hc.symm.trans c9) hy9
  obtain ⟨u1, u2, u3⟩ := id hu
  have fr0 : ∀ p9 : Nat, p9 ∉ [tx] → s.heap[p9]? = s.heap[p9]? := fun _ _ => rfl
  refine lv_aload_n hx hb (eX0_take (0, .aload_n 0, 1) (List.mem_of_getElem? (i := 0) rfl)) rfl (lv_at hl 0 rfl) ?_
  refine tz_rowV (As := []) (st := []) (b := tx) (C := RX0) (Ts := gT) hx hb hml hown h2 (fun _ h => h) (hX0_look l D cA ro sz H0 tx T (sg) htx) ⟨rfl, rfl⟩ ⟨by decide, by decide⟩ ⟨by decide, by decide⟩ (tb_4 12 rfl rfl) (tb_1 5 rfl rfl) (tb_4 9 rfl rfl) (tb_4 10 rfl rfl) (tb_4 11 rfl rfl) (show yX0_look.cls ≠ "java/lang/invoke/MethodHandle" ∧ yX0_look.cls ≠ "java/lang/invoke/VarHandle" ∧ (parseMethodDescriptor yX0_look.desc).map (fun d => d.parameters.length) = some 0 by decide +kernel) zs_blind (zs_ob hh htx (show RTg[0]? = some (0, 0, 0, fsX0) from rfl) (zCX0 hKn.1)) (fun U hU hW => ⟨rfl, by rw [hU]; exact hh.l0, zKb s U hW.alike hKn, by rw [hU]; exact hJ⟩) hh.2.2.1 hl.1 (Nat.le_of_ble_eq_true rfl) (eX0_take (1, .invokevirtual 29, 3) (List.mem_of_getElem? (i := 1) rfl)) (fun r1 s1 t1 lo1 g1 f1 l1 => ?_)
  obtain ⟨z1, v1, q1, e1⟩ := f1
  cases q1
  rw [z1, g1]
  have hh1 : zh_ok D cA RTg ro sz H0 s.heap lo1 := ⟨hh.1, hh.2.1, l1, hh.2.2.2⟩
  refine W.eq (g2 := F0 m 4 ls [.int v1]) rfl ?_
  refine lv_iload_n hx hb (eX0_take (4, .iload_n 1, 1) (List.mem_of_getElem? (i := 2) rfl)) rfl (lv_at hl 1 rfl) ?_
  refine ff_icmp_eq hx hb (eX0_take (5, .if_icmp .eq 5, 3) (List.mem_of_getElem? (i := 3) rfl)) (tgt := 10) rfl (fun c2 => ?_) (fun c2 => ?_)
  · skip
    refine lv_aload_n hx hb (eX0_take (10, .aload_n 0, 1) (List.mem_of_getElem? (i := 6) rfl)) rfl (lv_at hl 0 rfl) ?_
    refine lv_dup hx hb (eX0_take (11, .dup, 1) (List.mem_of_getElem? (i := 7) rfl)) rfl ?_
    refine tz_get (r := 0) (k := 2) (t := (0, (-2147483648), 2147483647)) hx hb hh1 htx rfl rfl (hcl0 19 2 (0, (-2147483648), 2147483647) (by decide) rfl).1 f2 (eX0_take (12, .getfield 19, 3) (List.mem_of_getElem? (i := 8) rfl)) ?_
    refine ff_iconst hx hb (eX0_take (15, .iconst 1, 1) (List.mem_of_getElem? (i := 9) rfl)) (by decide) (by decide) (fun v3 e3 => ?_)
    refine ff_iadd hx hb (eX0_take (16, .iadd, 1) (List.mem_of_getElem? (i := 10) rfl)) (by omega) (by omega) (fun v4 e4 => ?_)
    refine tz_put (r := 0) (k := 2) (t := (0, (-2147483648), 2147483647)) hx hb hD hh1 htx rfl rfl ((hcl0 19 2 (0, (-2147483648), 2147483647) (by decide) rfl).2 (by decide)) (tz_i (zn_i32 _).1 (zn_i32 _).2) (eX0_take (17, .putfield 19, 3) (List.mem_of_getElem? (i := 11) rfl)) (fun H5 lo5 hh5 hf5 hk5 _ hq5 => ?_)
    have mf5_tx_0 := (hk5.1 tx 0 0 0 0 fsX0 htx rfl (by decide) (by decide)).trans f0
    have mf5_tx_1 := (hk5.1 tx 0 1 0 0 fsX0 htx rfl (by decide) (by decide)).trans f1
    have mf5_tx_3 := (hk5.1 tx 0 3 0 0 fsX0 htx rfl (by decide) (by decide)).trans f3
    have mf5_tx_4 := (hk5.1 tx 0 4 0 0 fsX0 htx rfl (by decide) (by decide)).trans f4
    have mc5_tb := (hk5.2 tb 12 0 2 120 _ r0 rfl (by decide)).trans hc
    have kp5 := kp0.trans (hk5.mono (ms' := uM) (fun x hx => by cases List.mem_singleton.mp hx; decide))
    have jm5 := (hJ.1).kept htx hk5 (by decide) (by decide) (by decide)
    have fr5 : ∀ p9 : Nat, p9 ∉ [tx] → H5[p9]? = s.heap[p9]? := fun p9 h9 => (hq5 p9 (fun e9 => h9 (by rw [e9]; exact List.mem_cons_self))).trans (fr0 p9 h9)
    refine ff_iconst hx hb (eX0_take (20, .iconst 1, 1) (List.mem_of_getElem? (i := 12) rfl)) (by decide) (by decide) (fun v6 e6 => ?_)
    have hfin : tkF T k0 sg = (1, (sg.1 + 1, sg.2)) := by unfold tkF; rw [if_pos (by omega)]
    exact W.zret hx hb hr (zn_bool (by omega) (by omega)) (fun t ht hW => ⟨_, rfl, by rw [hfin] <;> exact by show _ = (1 : Int); omega, by rw [ht]; exact hh5.l0, by rw [ht]; exact kp5, by rw [ht, hfin]; exact ⟨jm5, ⟨_, _, _, hf5, mf5_tx_3, mf5_tx_4, by show _ = sg.1 + 1; omega, hbv, hwv⟩, by have q := tkF_ok hk1 hu; rw [hfin] at q; exact q⟩, by rw [ht]; exact fr5⟩) hh5.2.2.1 (eX0_take (21, .ireturn, 1) (List.mem_of_getElem? (i := 13) rfl))
  · skip
    refine ff_iconst hx hb (eX0_take (8, .iconst 0, 1) (List.mem_of_getElem? (i := 4) rfl)) (by decide) (by decide) (fun v7 e7 => ?_)
    have hfin : tkF T k0 sg = (0, sg) := by unfold tkF; rw [if_neg (by omega)]
    exact W.zret hx hb hr (zn_bool (by omega) (by omega)) (fun t ht hW => ⟨_, rfl, by rw [hfin] <;> exact by show _ = (0 : Int); omega, by rw [ht]; exact hh1.l0, by rw [ht]; exact kp0, by rw [ht, hfin]; exact ⟨hJ.1, ⟨_, _, _, f2, f3, f4, hav, hbv, hwv⟩, hu⟩, by rw [ht]; exact fr0⟩) hh1.2.2.1 (eX0_take (9, .ireturn, 1) (List.mem_of_getElem? (i := 5) rfl))
