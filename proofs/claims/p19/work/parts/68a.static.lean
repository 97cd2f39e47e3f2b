/-! static methods called with few roles: the other cells stay -/
def zo_st (ro : Nat → Option Nat) : Nat → Option Nat := fun q => match ro q with
  | some 39 => some 39
  | some 40 => some 40
  | some 41 => some 41
  | _ => none
theorem zo_st_in {ro : Nat → Option Nat} {q r : Nat} (h : zo_st ro q = some r) : ro q = some r ∧ (r = 39 ∨ r = 40 ∨ r = 41) := by
  unfold zo_st at h
  split at h
  · rename_i g; cases h; exact ⟨g, Or.inl rfl⟩
  · rename_i g; cases h; exact ⟨g, Or.inr (Or.inl rfl)⟩
  · rename_i g; cases h; exact ⟨g, Or.inr (Or.inr rfl)⟩
  · cases h
section ZST
variable {D : va_G} {cA : Nat → ClassId} {ro : Nat → Option Nat} {sz bs : Nat} {H0 H H1 : Heap} {locs locs1 : List Loc} {s : State}
theorem zh_st (hh : zh_ok D cA RTg ro sz H0 H locs) (hz : bs ≤ H.size) : zh_ok D cA RTg (zo_st ro) bs H H [] := by
  refine ⟨hz, fun _ _ => rfl, fun q hq => (by cases hq), fun a r ha => ?_⟩
  obtain ⟨h1, h2⟩ := zo_st_in ha
  obtain ⟨e, h3, h4, h5⟩ := hh.2.2.2 a r h1
  rcases h2 with rfl | rfl | rfl
  · cases (show some ((2, 0, 13, [(0, 0, 365)]) : zr_R) = some e from h3)
    obtain ⟨cell, z, g1, g0, g2⟩ := h5
    exact ⟨_, rfl, Or.inl rfl, cell, z, g1, g0, fun t ht j hj => by cases ht; exact g2 _ rfl j hj⟩
  · cases (show some ((2, 3, 6, [(0, 0, 65535)]) : zr_R) = some e from h3)
    obtain ⟨cell, z, g1, g0, g2⟩ := h5
    exact ⟨_, rfl, Or.inl rfl, cell, z, g1, g0, fun t ht j hj => by cases ht; exact g2 _ rfl j hj⟩
  · cases (show some ((2, 0, 6, [(0, 1, 86400)]) : zr_R) = some e from h3)
    obtain ⟨cell, z, g1, g0, g2⟩ := h5
    exact ⟨_, rfl, Or.inl rfl, cell, z, g1, g0, fun t ht j hj => by cases ht; exact g2 _ rfl j hj⟩
theorem zKn_st (h : zKn D cA ro sz H0 s) (hh : zh_ok D cA RTg ro sz H0 H locs) (hb : sz ≤ bs) : zKn D cA (zo_st ro) bs H s := by
  have f : ∀ {C n d : String} {r : Nat}, (r = 39 ∨ r = 40 ∨ r = 41) → zS1 ro sz H0 C n d r s → zS1 (zo_st ro) bs H C n d r s := fun {C n d r} hr hS => by
    obtain ⟨a, h1, cf, kf, fi, f, a0, ce, g1, g2, g3, g4, g5, g6, g7, g8⟩ := hS
    refine ⟨a, ?_, cf, kf, fi, f, a0, ce, g1, g2, g3, g4, ?_, g6, g7, fun q => g8 (Nat.le_trans hb q)⟩
    · rcases hr with rfl | rfl | rfl <;> simp [zo_st, h1]
    · rw [hh.2.1 a0 (Nat.not_le.mp g8)]; exact g5
  exact ⟨h.1, f (Or.inl rfl) h.2.1, f (Or.inr (Or.inl rfl)) h.2.2.1, f (Or.inr (Or.inr rfl)) h.2.2.2.1, h.2.2.2.2⟩
theorem zKn_up {r a : Nat} (h : zKn D cA ro sz H0 s) (ha : ro a = none) : zKn D cA (zo_up ro a r) sz H0 s := zKn.ext (zo_up_ext ha) h
end ZST
section ZSR
variable {p : Program} {l : Launch} {e : Env} {R : Room} {s : State} {m : MethodId} {args : Array Value} {below : List Frame} {meth : Method} {c : Code} {H : Heap} {locs : List Loc} {cells slots : Nat} {Q : State → Prop} {cc : ByteArray} {pc : Nat} {ls : Array Slot} {rest : List Value}
variable {D : va_G} {cA : Nat → ClassId} {rs : Nat → Option Nat} {sz bs : Nat} {k : zc_C} {y : MethodName} {rm : Room} {nL maxL idx : Nat} {ret : Option FieldType} {own : String} {x0 : Cond} {bytes : ByteArray}
/-- a static method by its typed contract, with roles rs and what lies below bs as it is -/
theorem zo_S {vs : List Value} (hx : p.tables.exec = Jvm.exec) (hb : c.code = cc) (hml : c.maxLocals = nL) (hown : s.vm.findClass own = some m.cls) (hts : ∀ w ∈ x0 :: gT, w.before args s = true) (hKs : zKn D cA rs bs H s) (hM : zy_M l D cA RTg rs bs H (zKn D cA rs bs H) y (gW y bytes maxL ret) rm k) (h0 : rm.cells = 0 ∧ rm.slots = 0) (hR : rm.frames + 1 ≤ R.frames ∧ 8 + (maxL + 11) + rm.locals ≤ R.locals) (hf : cells ≤ R.cells ∧ slots ≤ R.slots)
    (hc : Cond.code y bytes maxL ret ∈ gT) (hi : Cond.initialized y.cls ∈ gT) (hl : Cond.methodLink own idx y ∈ gT) (hst : Cond.static y ∈ gT) (hd : y.cls ≠ "java/lang/invoke/MethodHandle" ∧ y.cls ≠ "java/lang/invoke/VarHandle" ∧ (parseMethodDescriptor y.desc).map (fun d => d.parameters.length) = some vs.length)
    (hrs : zh_ok D cA RTg rs bs H H []) (hp : zc_pre D RTg rs k H vs) (hsz : sz ≤ bs) (hlo : ∀ q ∈ locs, sz ≤ q.base) (hsize : ls.size = nL) (hwt : (rest.map fun v => v.category).sum ≤ 8) (hdg : decode cc pc = .ok (.invokestatic idx, 3))
    (kk : ∀ (H' : Heap) (locs' : List Loc) (x : Option Value), zh_ok D cA RTg rs bs H H' [] → (∃ al ∈ k.2.2.2.2.2, zc_post D RTg rs k al H H' vs x) → (∀ q ∈ locs', sz ≤ q.base) → W p l e R s m args below meth c H' locs' cells slots Q (F0 m (pc + 3) ls (x.toList ++ rest))) :
    W p l e R s m args below meth c H locs cells slots Q (F0 m pc ls (vs.reverse ++ rest)) := by
  have h2 : ∀ w ∈ gT, w.before args s = true := fun w hw => hts w (List.mem_cons_of_mem _ hw)
  have hr := va_runS (p := p) (l := l) (e := e) (R := R) (below := below) (meth := meth) (H := H) (locs := locs) (cells := cells) (slots := slots) (As := vs) (rest := rest) (g := F0 m pc ls (vs.reverse ++ rest)) ⟨hx, hb, hml, hown, hts⟩ hM ⟨callB_of vs.length hts (gT_gi hc) rfl h0.1 h0.2 (h2 _ hi) (h2 _ hl) hd hR, h2 _ hst⟩ ⟨zy_blind zKb, fun U hU hW => ⟨vs, rfl, by rw [hU]; exact hrs, by rw [hU]; exact hp, zKb s U hW.alike hKs⟩⟩ rfl rfl hsize rfl (lv_room hwt) hdg hf
  intro T hT X
  obtain ⟨v, st0, t, T', L, g0, X', hL, e1, e2, hq, go⟩ := hr T hT X
  obtain ⟨vs', x, q1, q2, q3, q4, q5⟩ := hq
  have hvs : vs' = vs := zt_arr_inj q1.symm
  subst hvs
  cases q2
  rw [g0] at q5
  obtain ⟨tt, b1, b2⟩ := kk t.heap (locs ++ L) v q3 q5 (fun q hq => (List.mem_append.mp hq).elim (hlo q) (fun h => Nat.le_trans hsz (hL q h))) T' e1 X'
  exact ⟨tt, go tt b1, b2⟩
end ZSR
section ZSI
variable {p : Program} {l : Launch} {e : Env} {R : Room} {s : State} {m : MethodId} {args : Array Value} {below : List Frame} {meth : Method} {c : Code} {H : Heap} {locs : List Loc} {cells slots : Nat} {Q : State → Prop} {cc : ByteArray} {pc : Nat} {ls : Array Slot} {rest : List Value}
variable {D : va_G} {cA : Nat → ClassId} {ro0 ro : Nat → Option Nat} {sz : Nat} {H0 Hs : Heap} {a : Nat}
/-- one array of a role, and nothing else, has changed -/
theorem zo_I.arr {bf r ti n : Nat} {t : zt_T} {z : Nat → Value} {H1 : Heap} {locs1 : List Loc} (hI : zo_I D cA ro0 sz H0 Hs a ro H locs) (hrb : ro bf = some r) (hbf : Hs.size ≤ bf) (hRT : RTg[r]? = some (1, ti, n, [t])) (hz : H.size ≤ H1.size) (h1 : H1[bf]? = some (arrV (cA ti) n z)) (hq : ∀ q : Nat, q < H.size → q ≠ bf → H1[q]? = H[q]?) (ht : ∀ j, j < n → zt_ok ro (z j) t) (hl : ∀ q ∈ locs1, sz ≤ q.base) : zo_I D cA ro0 sz H0 Hs a ro H1 locs1 := by
  obtain ⟨i1, i2, i3, i4, i5, i6, i7, i8⟩ := hI
  have hsb : sz ≤ bf := (zh_arr i1 hrb hRT).1
  refine ⟨⟨Nat.le_trans i1.1 hz, fun q g => ?_, hl, fun b r' hb => ?_⟩, i2, i3, by omega, fun q g1 g2 => by rw [hq q (by omega) (by omega)]; exact i5 q g1 g2, i6, i7, i8⟩
  · rw [hq q (Nat.lt_of_lt_of_le g i1.1) (by omega)]; exact i1.2.1 q g
  · by_cases hab : b = bf
    · subst hab
      cases hrb.symm.trans hb
      refine ⟨_, hRT, Or.inr hsb, z, h1, fun t' ht' => ?_⟩
      cases ht'
      exact ht
    · obtain ⟨e, h2, h3, h4⟩ := i1.2.2.2 b r' hb
      refine ⟨e, h2, h3, ?_⟩
      have e1 := hq b (zh_lt i1 hb) hab
      unfold zh_cell at h4 ⊢
      rw [e1]
      exact h4
/-- Arrays.fill of the newest array -/
theorem zo_fill {nL idx bf : Nat} {own : String} {x0 : Cond} {x : Int64} (hx : p.tables.exec = Jvm.exec) (hb : c.code = cc) (hml : c.maxLocals = nL) (hown : s.vm.findClass own = some m.cls) (hts : ∀ w ∈ x0 :: gT, w.before args s = true) (hI : zo_I D cA ro0 sz H0 Hs a ro H locs) (hKn : zKn D cA ro0 sz H0 s) (hrf : ro bf = some 18) (hlast : H.size = bf + 1) (hbf : Hs.size ≤ bf) (hR : 1 ≤ R.frames ∧ 8 + (5 + 11) ≤ R.locals) (hf : cells ≤ R.cells ∧ slots ≤ R.slots)
    (hc : Cond.code yJ7_fill_d0a16 cJ7_fill_d0a16 5 none ∈ gT) (hi : Cond.initialized yJ7_fill_d0a16.cls ∈ gT) (hl : Cond.methodLink own idx yJ7_fill_d0a16 ∈ gT) (hst : Cond.static yJ7_fill_d0a16 ∈ gT) (hsize : ls.size = nL) (hwt : (rest.map fun v => v.category).sum ≤ 8) (hdg : decode cc pc = .ok (.invokestatic idx, 3))
    (kk : ∀ (H' : Heap) (locs' : List Loc), zo_I D cA ro0 sz H0 Hs a ro H' locs' → (∀ q : Nat, q < bf → H'[q]? = H[q]?) → W p l e R s m args below meth c H' locs' cells slots Q (F0 m (pc + 3) ls rest)) :
    W p l e R s m args below meth c H locs cells slots Q (F0 m pc ls (.long x :: .ref bf :: rest)) := by
  have hh := hI.1
  have hsb : sz ≤ bf := (zh_arr hh hrf (show RTg[18]? = some (1, 1, 39, [(1, (-9223372036854775808), 9223372036854775807)]) from rfl)).1
  have hn : zo_st ro bf = none := by simp [zo_st, hrf]
  have h1 : zh_ok D cA RTg (zo_up (zo_st ro) bf 17) bf H H [] := by
    obtain ⟨-, z, c1, y1⟩ := zh_arr hh hrf (show RTg[18]? = some (1, 1, 39, [(1, (-9223372036854775808), 9223372036854775807)]) from rfl)
    refine zh_add (zh_st hh (by omega)) hn (Nat.le_refl _) rfl ⟨z, c1, fun t ht j hj => ?_⟩
    cases ht
    obtain ⟨y, e1, e2, e3⟩ := y1 j hj
    exact ⟨y, e1, e2, e3⟩
  have hK : zKn D cA (zo_up (zo_st ro) bf 17) bf H s := zKn_up (zKn_st (zKn.ext hI.2.1 hKn) hh hsb) hn
  refine zo_S (rs := zo_up (zo_st ro) bf 17) (bs := bf) (sz := sz) (vs := [.ref bf, .long x]) hx hb hml hown hts hK (mJ7_fill_d0a16 l D cA _ bf H) ⟨rfl, rfl⟩ ⟨by show 0 + 1 ≤ _; omega, by show 8 + (5 + 11) + 0 ≤ _; omega⟩ hf hc hi hl hst (show yJ7_fill_d0a16.cls ≠ "java/lang/invoke/MethodHandle" ∧ yJ7_fill_d0a16.cls ≠ "java/lang/invoke/VarHandle" ∧ (parseMethodDescriptor yJ7_fill_d0a16.desc).map (fun d => d.parameters.length) = some 2 by decide +kernel) h1 ⟨⟨Or.inr ⟨bf, rfl, zo_up_at⟩, ⟨x, rfl, (zn_i64 x).1, (zn_i64 x).2⟩, trivial⟩, fun e he => (by cases he), fun f hf => (by cases hf)⟩ hsb hh.2.2.1 hsize hwt hdg (fun H' locs' x' g1 g2 g3 => ?_)
  obtain ⟨al, hal, hres, -⟩ := g2
  rcases List.mem_cons.mp hal with rfl | hal
  · match x', hres with
    | none, _ =>
      obtain ⟨-, z, c1, y1⟩ := zh_arr g1 (a := bf) (r := 17) zo_up_at (show RTg[17]? = some (1, 1, 39, [(1, (-9223372036854775808), 9223372036854775807)]) from rfl)
      have hlt := (Array.getElem?_eq_some_iff.mp c1).1
      refine kk H' locs' (hI.arr hrf hbf (show RTg[18]? = some (1, 1, 39, [(1, (-9223372036854775808), 9223372036854775807)]) from rfl) (by omega) c1 (fun q q1 q2 => g1.2.1 q (by omega)) (fun j hj => ?_) g3) (fun q hq => g1.2.1 q hq)
      obtain ⟨y, e1, e2, e3⟩ := y1 j hj
      exact ⟨y, e1, e2, e3⟩
  · cases hal
/-- a static method without any cell of a role: all stays -/
theorem zo_pure {k : zc_C} {y : MethodName} {rm : Room} {nL maxL idx : Nat} {ret : Option FieldType} {own : String} {x0 : Cond} {bytes : ByteArray} {vs : List Value} (hx : p.tables.exec = Jvm.exec) (hb : c.code = cc) (hml : c.maxLocals = nL) (hown : s.vm.findClass own = some m.cls) (hts : ∀ w ∈ x0 :: gT, w.before args s = true) (hh : zh_ok D cA RTg ro sz H0 H locs) (hKn : zKn D cA ro sz H0 s) (hM : zy_M l D cA RTg (zo_st ro) H.size H (zKn D cA (zo_st ro) H.size H) y (gW y bytes maxL ret) rm k) (h0 : rm.cells = 0 ∧ rm.slots = 0) (hR : rm.frames + 1 ≤ R.frames ∧ 8 + (maxL + 11) + rm.locals ≤ R.locals) (hf : cells ≤ R.cells ∧ slots ≤ R.slots)
    (hc : Cond.code y bytes maxL ret ∈ gT) (hi : Cond.initialized y.cls ∈ gT) (hl : Cond.methodLink own idx y ∈ gT) (hst : Cond.static y ∈ gT) (hd : y.cls ≠ "java/lang/invoke/MethodHandle" ∧ y.cls ≠ "java/lang/invoke/VarHandle" ∧ (parseMethodDescriptor y.desc).map (fun d => d.parameters.length) = some vs.length) (hp : zc_pre D RTg (zo_st ro) k H vs) (hsize : ls.size = nL) (hwt : (rest.map fun v => v.category).sum ≤ 8) (hdg : decode cc pc = .ok (.invokestatic idx, 3))
    (kk : ∀ (H' : Heap) (locs' : List Loc) (x : Option Value), (∃ al ∈ k.2.2.2.2.2, zc_post D RTg (zo_st ro) k al H H' vs x) → H.size ≤ H'.size → (∀ q : Nat, q < H.size → H'[q]? = H[q]?) → (∀ q ∈ locs', sz ≤ q.base) → W p l e R s m args below meth c H' locs' cells slots Q (F0 m (pc + 3) ls (x.toList ++ rest))) :
    W p l e R s m args below meth c H locs cells slots Q (F0 m pc ls (vs.reverse ++ rest)) :=
  zo_S (bs := H.size) hx hb hml hown hts (zKn_st hKn hh hh.1) hM h0 hR hf hc hi hl hst hd (zh_st hh (Nat.le_refl _)) hp hh.1 hh.2.2.1 hsize hwt hdg (fun H' locs' x g1 g2 g3 => kk H' locs' x g2 g1.1 g1.2.1 g3)
/-- a constructor's state where all old cells stay -/
theorem zo_I.all {H1 : Heap} {locs1 : List Loc} (hI : zo_I D cA ro0 sz H0 Hs a ro H locs) (hz : H.size ≤ H1.size) (hq : ∀ q : Nat, q < H.size → H1[q]? = H[q]?) (hl : ∀ q ∈ locs1, sz ≤ q.base) : zo_I D cA ro0 sz H0 Hs a ro H1 locs1 := by
  obtain ⟨i1, i2, i3, i4, i5, i6, i7, i8⟩ := hI
  exact ⟨zh_same i1 hz (fun q g _ => hq q g) hl, i2, i3, by omega, fun q g1 g2 => by rw [hq q (by omega)]; exact i5 q g1 g2, i6, i7, i8⟩
/-- a long is stored into an array of a role -/
theorem zo_last {bf r n : Nat} {lo hi : Int} {j : Int32} {x : Int64} (hx : p.tables.exec = Jvm.exec) (hb : c.code = cc) (hI : zo_I D cA ro0 sz H0 Hs a ro H locs) (hK : zK0 D cA s) (hrf : ro bf = some r) (hbf : Hs.size ≤ bf) (hRT : RTg[r]? = some (1, 1, n, [(1, lo, hi)])) (hj : 0 ≤ j.toInt ∧ j.toInt < n) (hxt : lo ≤ x.toInt ∧ x.toInt ≤ hi) (hd : decode cc pc = .ok (.lastore, 1))
    (kk : ∀ (H' : Heap) (locs' : List Loc), zo_I D cA ro0 sz H0 Hs a ro H' locs' → (∀ q : Nat, q ≠ bf → H'[q]? = H[q]?) → W p l e R s m args below meth c H' locs' cells slots Q (F0 m (pc + 1) ls rest)) : W p l e R s m args below meth c H locs cells slots Q (F0 m pc ls (.long x :: .int j :: .ref bf :: rest)) := by
  obtain ⟨hsb, z, c1, y1⟩ := zh_arr hI.1 hrf hRT
  have hv : vp_in j n := vp_in_iff.mpr hj
  refine W.last hx hb c1 ((hK.2 1 _ rfl).1 n z) (fun h => by cases h) (by rw [arrV_size]; exact hv) rfl rfl hd (fun H' e1 e2 e3 => ?_)
  rw [arrV_store] at e1
  refine kk H' _ (hI.arr hrf hbf hRT (by omega) e1 (fun q _ q2 => e3 q q2) (fun i hi => ?_) (fun q hq => ?_)) e3
  · unfold updV
    split
    · exact ⟨x, rfl, hxt.1, hxt.2⟩
    · exact y1 i hi
  · rcases List.mem_append.mp hq with g | g
    · exact hI.1.2.2.1 q g
    · rw [List.mem_singleton.mp g]; exact hsb
end ZSI
