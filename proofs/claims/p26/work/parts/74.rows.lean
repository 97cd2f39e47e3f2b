/-! rows on things of a role whose fields and places are known -/
section TZ
variable {p : Program} {l : Launch} {e : Env} {R : Room} {s : State} {m : MethodId} {args : Array Value} {below : List Frame} {meth : Method} {c : Code} {H : Heap} {locs : List Loc} {cells slots : Nat} {Q : State → Prop} {cc : ByteArray} {pc : Nat} {ls : Array Slot} {st : List Value}
variable {D : va_G} {cA : Nat → ClassId} {ro : Nat → Option Nat} {sz : Nat} {H0 : Heap}
theorem zh_fT {a r k ci n : Nat} {fs : List zt_T} {t : zt_T} (hh : zh_ok D cA RTg ro sz H0 H locs) (ha : ro a = some r) (hr : RTg[r]? = some (0, ci, n, fs)) (hk : fs[k]? = some t) : zt_ok ro (zh_f D H a ci k) t := by
  obtain ⟨-, cell, c1, c2, c3, c4⟩ := zh_obj hh ha hr
  obtain ⟨y, c5, c6⟩ := c4 k t hk
  rw [show zh_f D H a ci k = y by simp [zh_f, c1, c5]]
  exact c6
theorem tz_ref {a r k ci n rr : Nat} {fs : List zt_T} (hh : zh_ok D cA RTg ro sz H0 H locs) (ha : ro a = some r) (hr : RTg[r]? = some (0, ci, n, fs)) (hk : fs[k]? = some (2 * rr + 4, 0, 0)) : ∃ b : Nat, zh_f D H a ci k = .ref b ∧ ro b = some rr := by
  have h := zh_fT hh ha hr hk
  unfold zt_ok at h
  dsimp only at h
  rcases h with ⟨g, -⟩ | ⟨b, g1, g2⟩
  · omega
  · exact ⟨b, g1, by rw [g2]; congr 1; omega⟩
theorem tz_get {a r k ci n idx : Nat} {fs : List zt_T} {t : zt_T} {x : Value} (hx : p.tables.exec = Jvm.exec) (hb : c.code = cc) (hh : zh_ok D cA RTg ro sz H0 H locs) (ha : ro a = some r) (hr : RTg[r]? = some (0, ci, n, fs)) (hk : fs[k]? = some t) (hg : zk_get s m args D idx ci k) (hf : zh_f D H a ci k = x) (hd : decode cc pc = .ok (.getfield idx, 3))
    (kk : W p l e R s m args below meth c H locs cells slots Q (F0 m (pc + 3) ls (x :: st))) : W p l e R s m args below meth c H locs cells slots Q (F0 m pc ls (.ref a :: st)) := by
  obtain ⟨-, cell, c1, c2, c3, c4⟩ := zh_obj hh ha hr
  obtain ⟨y, c5, c6⟩ := c4 k t hk
  obtain ⟨own, ref, name, desc, f, ⟨f1, f2, ⟨cf, kf, i, f3⟩, f4⟩, f5⟩ := hg
  have e1 : x = y := by rw [← hf]; simp [zh_f, c1, c5]
  subst e1
  exact W.getf hx hb f1 f2 f3 f4 c1 (by rw [c3]; exact fun h => by cases h) (by rw [f5]; exact c5) rfl rfl hd kk
theorem zh_setF {a r k ci n : Nat} {fs : List zt_T} {t : zt_T} {x : Value} {cell : Cell} {H' : Heap} {locs' : List Loc} (hD : zD_ok D RTg) (hh : zh_ok D cA RTg ro sz H0 H locs) (ha : ro a = some r) (hr : RTg[r]? = some (0, ci, n, fs)) (hk : fs[k]? = some t) (hx : zt_ok ro x t) (c1 : H[a]? = some cell) (e1 : H'[a]? = some (cell.setSlot (D.2 ci k) x)) (e2 : H'.size = H.size) (e3 : ∀ q : Nat, q ≠ a → H'[q]? = H[q]?) (hl : ∀ q ∈ locs', sz ≤ q.base) : zh_ok D cA RTg ro sz H0 H' locs' ∧ zh_f D H' a ci k = x := by
  obtain ⟨hsa, cell', c1', c2, c3, c4⟩ := zh_obj hh ha hr
  cases c1.symm.trans c1'
  obtain ⟨y, c5, c6⟩ := c4 k t hk
  have hkl : k < fs.length := (List.getElem?_eq_some_iff.mp hk).1
  have hsl : D.2 ci k < cell.slots.size := (Array.getElem?_eq_some_iff.mp c5).1
  have hself : (cell.setSlot (D.2 ci k) x).slots[D.2 ci k]? = some x := by simp [Cell.setSlot, hsl]
  refine ⟨⟨by rw [e2]; exact hh.1, fun j hj => by rw [e3 j (by omega)]; exact hh.2.1 j hj, hl, fun b rb hb => ?_⟩, by simp only [zh_f, e1, hself]; rfl⟩
  obtain ⟨ee, g2, g1, g3⟩ := hh.2.2.2 b rb hb
  refine ⟨ee, g2, g1, ?_⟩
  by_cases eb : b = a
  · subst eb
    cases hb.symm.trans ha
    cases g2.symm.trans hr
    refine ⟨_, e1, c2, c3, fun j tj hj => ?_⟩
    by_cases ej : j = k
    · subst ej
      cases hj.symm.trans hk
      exact ⟨x, hself, hx⟩
    · obtain ⟨w, w1, w2⟩ := c4 j tj hj
      have hne : D.2 ci k ≠ D.2 ci j := fun q => ej (hD r ci n fs hr k j hkl (List.getElem?_eq_some_iff.mp hj).1 q).symm
      exact ⟨w, by rw [slot_ne _ _ hne]; exact w1, w2⟩
  · unfold zh_cell at g3 ⊢
    rw [e3 b eb]
    exact g3
theorem tz_put {a r k ci n idx : Nat} {fs : List zt_T} {t : zt_T} {x : Value} (hx : p.tables.exec = Jvm.exec) (hb : c.code = cc) (hD : zD_ok D RTg) (hh : zh_ok D cA RTg ro sz H0 H locs) (ha : ro a = some r) (hr : RTg[r]? = some (0, ci, n, fs)) (hk : fs[k]? = some t) (hg : zk_put s m args D ro idx ci k t) (hv : zt_ok ro x t) (hd : decode cc pc = .ok (.putfield idx, 3))
    (kk : ∀ (H' : Heap) (locs' : List Loc), zh_ok D cA RTg ro sz H0 H' locs' → zh_f D H' a ci k = x → zc_kept D RTg ro [(r, k)] H H' → H'.size = H.size → (∀ q : Nat, q ≠ a → H'[q]? = H[q]?) → W p l e R s m args below meth c H' locs' cells slots Q (F0 m (pc + 3) ls st)) : W p l e R s m args below meth c H locs cells slots Q (F0 m pc ls (x :: .ref a :: st)) := by
  obtain ⟨hsa, cell, c1, c2, c3, c4⟩ := zh_obj hh ha hr
  obtain ⟨y, c5, c6⟩ := c4 k t hk
  obtain ⟨own, ref, name, desc, f, f1, f5, f6⟩ := hg
  refine W.putK hx hb f1 (by rw [c2]; exact f6 x hv) c1 c3 (by rw [f5]; exact (Array.getElem?_eq_some_iff.mp c5).1) rfl rfl hd (fun H' e1 e2 e3 => ?_)
  rw [f5] at e1 ⊢
  obtain ⟨g1, g2⟩ := zh_setF (locs' := locs ++ [⟨a, D.2 ci k⟩]) hD hh ha hr hk hv c1 e1 e2 e3 (fun q hq => by
    rcases List.mem_append.mp hq with g | g
    · exact hh.2.2.1 q g
    · rw [List.mem_singleton.mp g]; exact hsa)
  exact kk H' _ g1 g2 (zk_kept_put hD hr (List.getElem?_eq_some_iff.mp hk).1 List.mem_cons_self ha c1 e1 e3 zc_kept.refl) e2 e3
theorem tz_in {j : Int32} {N : Nat} (h1 : 0 ≤ j.toInt) (h2 : j.toInt < N) : vp_in j N := vp_in_iff.mpr ⟨h1, h2⟩
theorem tz_iald {a ti N : Nat} {z : Nat → Value} {j : Int32} (hx : p.tables.exec = Jvm.exec) (hb : c.code = cc) (hA : ArrOfT s (cA ti) .int) (c1 : H[a]? = some (arrV (cA ti) N z)) (h1 : 0 ≤ j.toInt) (h2 : j.toInt < N) (hd : decode cc pc = .ok (.iaload, 1))
    (kk : W p l e R s m args below meth c H locs cells slots Q (F0 m (pc + 1) ls (z j.toNatClampNeg :: st))) : W p l e R s m args below meth c H locs cells slots Q (F0 m pc ls (.int j :: .ref a :: st)) :=
  W.iald hx hb c1 (hA N z) (fun h => by cases h) (by rw [arrV_size]; exact tz_in h1 h2) (arrV_read _ _ (Nat.not_le.mp fun q => tz_in h1 h2 (Or.inr q))) rfl rfl hd kk
theorem tz_lald {a ti N : Nat} {z : Nat → Value} {j : Int32} (hx : p.tables.exec = Jvm.exec) (hb : c.code = cc) (hA : ArrOfT s (cA ti) .long) (c1 : H[a]? = some (arrV (cA ti) N z)) (h1 : 0 ≤ j.toInt) (h2 : j.toInt < N) (hd : decode cc pc = .ok (.laload, 1))
    (kk : W p l e R s m args below meth c H locs cells slots Q (F0 m (pc + 1) ls (z j.toNatClampNeg :: st))) : W p l e R s m args below meth c H locs cells slots Q (F0 m pc ls (.int j :: .ref a :: st)) :=
  W.lald hx hb c1 (hA N z) (fun h => by cases h) (by rw [arrV_size]; exact tz_in h1 h2) (arrV_read _ _ (Nat.not_le.mp fun q => tz_in h1 h2 (Or.inr q))) rfl rfl hd kk
theorem tz_upd {N : Nat} {z : Nat → Value} {t : zt_T} {j : Nat} {x : Value} (h : ∀ i, i < N → zt_ok ro (z i) t) (hx : zt_ok ro x t) : ∀ i, i < N → zt_ok ro (updV z j x i) t := fun i hi => by
  unfold updV
  split
  · exact hx
  · exact h i hi
theorem tz_iast {a r ti N : Nat} {t : zt_T} {z : Nat → Value} {j x : Int32} (hx : p.tables.exec = Jvm.exec) (hb : c.code = cc) (hA : ArrOfT s (cA ti) .int) (hh : zh_ok D cA RTg ro sz H0 H locs) (ha : ro a = some r) (hr : RTg[r]? = some (1, ti, N, [t])) (c1 : H[a]? = some (arrV (cA ti) N z)) (hz : ∀ i, i < N → zt_ok ro (z i) t) (h1 : 0 ≤ j.toInt) (h2 : j.toInt < N) (hv : zt_ok ro (.int x) t) (hd : decode cc pc = .ok (.iastore, 1))
    (kk : ∀ (H' : Heap) (locs' : List Loc), zh_ok D cA RTg ro sz H0 H' locs' → H'[a]? = some (arrV (cA ti) N (updV z j.toNatClampNeg (.int x))) → zc_kept D RTg ro [(r, 0)] H H' → (∀ q : Nat, q ≠ a → H'[q]? = H[q]?) → H'.size = H.size → W p l e R s m args below meth c H' locs' cells slots Q (F0 m (pc + 1) ls st)) : W p l e R s m args below meth c H locs cells slots Q (F0 m pc ls (.int x :: .int j :: .ref a :: st)) := by
  have hsa := (zh_arr hh ha hr).1
  refine W.iast hx hb c1 (hA N z) (fun h => by cases h) (by rw [arrV_size]; exact tz_in h1 h2) rfl rfl hd (fun H' e1 e2 e3 => ?_)
  rw [arrV_store] at e1
  exact kk H' _ (zh_setA hh ha hr e2 e1 e3 (tz_upd hz hv) (fun q hq => by
    rcases List.mem_append.mp hq with g | g
    · exact hh.2.2.1 q g
    · rw [List.mem_singleton.mp g]; exact hsa)) e1 (zk_setA List.mem_cons_self ha hr e3) e3 e2
theorem tz_last {a r ti N : Nat} {t : zt_T} {z : Nat → Value} {j : Int32} {x : Int64} (hx : p.tables.exec = Jvm.exec) (hb : c.code = cc) (hA : ArrOfT s (cA ti) .long) (hh : zh_ok D cA RTg ro sz H0 H locs) (ha : ro a = some r) (hr : RTg[r]? = some (1, ti, N, [t])) (c1 : H[a]? = some (arrV (cA ti) N z)) (hz : ∀ i, i < N → zt_ok ro (z i) t) (h1 : 0 ≤ j.toInt) (h2 : j.toInt < N) (hv : zt_ok ro (.long x) t) (hd : decode cc pc = .ok (.lastore, 1))
    (kk : ∀ (H' : Heap) (locs' : List Loc), zh_ok D cA RTg ro sz H0 H' locs' → H'[a]? = some (arrV (cA ti) N (updV z j.toNatClampNeg (.long x))) → zc_kept D RTg ro [(r, 0)] H H' → (∀ q : Nat, q ≠ a → H'[q]? = H[q]?) → H'.size = H.size → W p l e R s m args below meth c H' locs' cells slots Q (F0 m (pc + 1) ls st)) : W p l e R s m args below meth c H locs cells slots Q (F0 m pc ls (.long x :: .int j :: .ref a :: st)) := by
  have hsa := (zh_arr hh ha hr).1
  refine W.last hx hb c1 (hA N z) (fun h => by cases h) (by rw [arrV_size]; exact tz_in h1 h2) rfl rfl hd (fun H' e1 e2 e3 => ?_)
  rw [arrV_store] at e1
  exact kk H' _ (zh_setA hh ha hr e2 e1 e3 (tz_upd hz hv) (fun q hq => by
    rcases List.mem_append.mp hq with g | g
    · exact hh.2.2.1 q g
    · rw [List.mem_singleton.mp g]; exact hsa)) e1 (zk_setA List.mem_cons_self ha hr e3) e3 e2
/-- a throw of X11 with any contract -/
theorem zx_leafG {ik is ic mc ms : Nat} {cls text : String} {Qc : Array Value → State → Outcome → State → Prop} {XC : String → State → State → Prop} (hx : p.tables.exec = Jvm.exec) (hb : c.code = cc) (hl : l.stackTraces = false) (hown : s.vm.findClass RX11 = some m.cls) (hts : ∀ w ∈ gT, w.before args s = true) (hK : zKx D cA ro sz H0 s) (hh0 : zh_ok D cA RTg ro sz H0 s.heap []) (hh : zh_ok D cA RTg ro sz H0 H locs) (hsize : ls.size = c.maxLocals) (hout : ∀ x ∈ c.exceptionTable.toList, False) (hlocks : meth.locks = false) (hR : 6 ≤ R.frames ∧ 82 ≤ R.locals ∧ cells + 1 ≤ R.cells ∧ slots + 6 ≤ R.slots)
    (hcl : Cond.classLink RX11 ik cls ∈ gT) (hini : Cond.initialized cls ∈ gT) (hstr : (is, text) ∈ gS) (hat : ∀ w ∈ gAt ic cls, w ∈ gT ∨ w ∈ gNg) (hfit : Bundle.fit cls = true) (hmc : cells + 1 ≤ mc) (hms : slots + 6 ≤ ms) (hX : ∀ t : State, H.size ≤ t.heap.size → (∀ q : Nat, q < H.size → t.heap[q]? = H[q]?) → XC cls s t)
    (d0 : decode cc pc = .ok (.new ik, 3)) (d3 : decode cc (pc + 3) = .ok (.dup, 1)) (d4 : decode cc (pc + 4) = .ok (.ldc is, 2)) (d6 : decode cc (pc + 6) = .ok (.invokespecial ic, 3)) (d9 : decode cc (pc + 9) = .ok (.athrow, 1)) :
    W p l e R s m args below meth c H locs cells slots (vx_MQ below Qc XC args s mc ms (zy_fr sz)) (F0 m pc ls []) := by
  intro T hT X
  have hsz : s.heap.size ≤ H.size := by
    have h1 : s.heap.size ≤ T.heap.size := X.same.2.1
    rw [hT] at h1; exact h1
  obtain ⟨sa, hsa⟩ := hK.2.2.2.1 _ hstr
  have hU : ∀ {n d : String}, vx_Zq Bundle.tN n d (fun q => sz ≤ q) s H0 → vx_Zq Bundle.tN n d (fun q => sz ≤ q) s s.heap := fun h => h.kept (fun q _ h2 => hh0.2.1 q (Nat.not_le.mp h2))
  have hS : va_S (fun q => sz ≤ q) s.heap H locs := ⟨hsz, fun q _ h2 => by rw [hh.2.1 q (Nat.not_le.mp h2), hh0.2.1 q (Nat.not_le.mp h2)], hh.2.2.1⟩
  exact vx_throwS (names := ["java/lang/RuntimeException", "java/lang/Exception"]) hx hb hl hown hfit (by decide) (hts _ hcl) (hts _ hini) hsa (fun w hw => (hat w hw).elim (hts w) (hK.ng w))
    (fun w hw => by
      rcases List.mem_cons.mp hw with g | g
      · rw [g]; exact gT_ot hcl
      · rcases List.mem_cons.mp g with g | g
        · rw [g]; exact gT_ot hini
        · exact (hat w g).elim gT_ot (gNg_ot w)) (hU hK.2.1) (hU hK.2.2.1) hS hsize d0 d3 d4 d6 d9 (fun x hx => (hout x hx).elim) (by show 2 + 3 < _; omega) (by show 0 + (13 * (2 + 1) + 43) ≤ _; omega) (by omega) (by omega) hlocks
    (fun t _ hz hq => hX t hz hq) hh.2.2.1 hmc hms T hT X
/-- a call of a method of an object, with any contract -/
theorem tz_rowV {y : MethodName} {bytes : ByteArray} {maxL nL mc ms idx b : Nat} {ret : Option FieldType} {rm : Room} {own C : String} {Ts : List Cond} {Pc : Array Value → State → Prop} {Qc : Array Value → State → Outcome → State → Prop} {As : List Value}
    (hx : p.tables.exec = Jvm.exec) (hb : c.code = cc) (hml : c.maxLocals = nL) (hown : s.vm.findClass own = some m.cls) (hts : ∀ w ∈ Ts, w.before args s = true) (hGT : ∀ w ∈ gT, w ∈ Ts) (hM : Met l y (gW y bytes maxL ret) rm Pc Qc mc ms (zy_fr sz)) (h0 : rm.cells = mc ∧ rm.slots = ms) (hR : rm.frames + 1 ≤ R.frames ∧ 8 + (maxL + 11) + rm.locals ≤ R.locals) (hf : cells + mc ≤ R.cells ∧ slots + ms ≤ R.slots)
    (hc : Cond.code y bytes maxL ret ∈ gT) (hi : Cond.initialized y.cls ∈ gT) (hl : Cond.methodLink own idx y ∈ gT) (hin : Cond.instanceMethod y ∈ gT) (hse : Cond.selects C y y ∈ gT) (hd : y.cls ≠ "java/lang/invoke/MethodHandle" ∧ y.cls ≠ "java/lang/invoke/VarHandle" ∧ (parseMethodDescriptor y.desc).map (fun d => d.parameters.length) = some As.length)
    (hbl : FrameBlind Pc) (hob : ∃ cell : Cell, H[b]? = some cell ∧ cell.vm = .none ∧ s.vm.findClass C = some cell.cls) (hpre : ∀ U : State, U.heap = H → s.WarmedH U.vm → Pc (Value.ref b :: As).toArray U) (hlo : ∀ q ∈ locs, sz ≤ q.base) (hsize : ls.size = nL) (hwt : (st.map fun v => v.category).sum ≤ 8) (hdg : decode cc pc = .ok (.invokevirtual idx, 3))
    (kk : ∀ (v : Option Value) (s0 t : State) (locs' : List Loc), s0.heap = H → Qc (Value.ref b :: As).toArray s0 (.returned v) t → (∀ q ∈ locs', sz ≤ q.base) → W p l e R s m args below meth c t.heap locs' (cells + mc) (slots + ms) Q (F0 m (pc + 3) ls (v.toList ++ st))) :
    W p l e R s m args below meth c H locs cells slots Q (F0 m pc ls (As.reverse ++ .ref b :: st)) := by
  have h2 : ∀ w ∈ gT, w.before args s = true := fun w hw => hts w (hGT w hw)
  have hG : GoodIn Ts (gW y bytes maxL ret) := fun w hw => by
    rcases List.mem_cons.mp hw with h | h
    · rw [h]; exact ⟨hGT _ hc, good_of_word (List.mem_filter.mp hc).2⟩
    · exact ⟨hGT _ h, good_of_word (List.mem_filter.mp h).2⟩
  obtain ⟨cell, c1, c2, c3⟩ := hob
  have hr := va_runV (p := p) (l := l) (e := e) (R := R) (below := below) (meth := meth) (H := H) (locs := locs) (cells := cells) (slots := slots) (C := C) (b := b) (As := As) (rest := st) (g := F0 m pc ls (As.reverse ++ .ref b :: st)) ⟨hx, hb, hml, hown, hts⟩ hM ⟨callB_of As.length hts hG rfl h0.1 h0.2 (h2 _ hi) (h2 _ hl) hd hR, h2 _ hin, h2 _ hse⟩ ⟨hbl, ⟨cell, c1, by rw [c2]; rfl, c3⟩, hpre⟩ rfl rfl hsize rfl (lv_room hwt) hdg hf
  intro T hT X
  obtain ⟨v, s0, t, T', L, g0, X', hL, e1, e2, hq, go⟩ := hr T hT X
  obtain ⟨tt, b1, b2⟩ := kk v s0 t (locs ++ L) g0 hq (fun q hq => (List.mem_append.mp hq).elim (hlo q) (hL q)) T' e1 X'
  exact ⟨tt, go tt b1, b2⟩
end TZ
