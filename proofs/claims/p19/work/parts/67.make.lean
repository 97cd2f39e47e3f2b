/-! making objects: the map of roles grows -/
def zo_up (ro : Nat → Option Nat) (a r : Nat) : Nat → Option Nat := fun q => if q = a then some r else ro q
theorem zo_up_at {ro : Nat → Option Nat} {a r : Nat} : zo_up ro a r a = some r := by simp [zo_up]
theorem zo_up_ne {ro : Nat → Option Nat} {a r q : Nat} (h : q ≠ a) : zo_up ro a r q = ro q := by simp [zo_up, h]
theorem zo_up_ext {ro : Nat → Option Nat} {a r : Nat} (h : ro a = none) : ∀ q r', ro q = some r' → zo_up ro a r q = some r' := fun q r' hq => by
  rw [zo_up_ne (fun e => by rw [e, h] at hq; cases hq)]; exact hq
theorem zt_ok.ext {ro ro' : Nat → Option Nat} (he : ∀ q r, ro q = some r → ro' q = some r) {x : Value} {t : zt_T} (h : zt_ok ro x t) : zt_ok ro' x t := by
  obtain ⟨k, lo, hi⟩ := t
  match k, h with
  | 0, h => exact h
  | 1, h => exact h
  | 2, h => exact h
  | 3, h => exact h
  | k + 4, h => exact h.imp id (fun ⟨a, h1, h2⟩ => ⟨a, h1, he _ _ h2⟩)
theorem zt_all.ext {ro ro' : Nat → Option Nat} (he : ∀ q r, ro q = some r → ro' q = some r) : ∀ {vs : List Value} {ts : List zt_T}, zt_all ro vs ts → zt_all ro' vs ts
  | [], [], h => h
  | _ :: _, _ :: _, h => ⟨h.1.ext he, zt_all.ext he h.2⟩
  | [], _ :: _, h => h
  | _ :: _, [], h => h
section ZMK
variable {D : va_G} {cA : Nat → ClassId} {ro ro' : Nat → Option Nat} {sz : Nat} {H0 H H1 Hs : Heap} {locs locs1 : List Loc} {a r : Nat}
theorem zh_cell_ext (he : ∀ q r, ro q = some r → ro' q = some r) {e : zr_R} (h : zh_cell D cA ro H a e) : zh_cell D cA ro' H a e := by
  unfold zh_cell at h ⊢
  split at h
  · obtain ⟨cell, h1, h2, h3, h4⟩ := h
    exact ⟨cell, h1, h2, h3, fun k t hk => by
      obtain ⟨x, g1, g2⟩ := h4 k t hk
      exact ⟨x, g1, g2.ext he⟩⟩
  · obtain ⟨cell, z, h1, h3, h2⟩ := h
    exact ⟨cell, z, h1, h3, fun t ht j hj => ⟨(h2 t ht j hj).1, (h2 t ht j hj).2.ext he⟩⟩
  · obtain ⟨z, h1, h2⟩ := h
    exact ⟨z, h1, fun t ht j hj => (h2 t ht j hj).ext he⟩
theorem zh_lt (hh : zh_ok D cA RTg ro sz H0 H locs) (ha : ro a = some r) : a < H.size := by
  obtain ⟨e, -, -, h3⟩ := hh.2.2.2 a r ha
  unfold zh_cell at h3
  split at h3
  · obtain ⟨cell, h1, -⟩ := h3
    exact (Array.getElem?_eq_some_iff.mp h1).1
  · obtain ⟨cell, z, h1, -⟩ := h3
    exact (Array.getElem?_eq_some_iff.mp h1).1
  · obtain ⟨z, h1, -⟩ := h3
    exact (Array.getElem?_eq_some_iff.mp h1).1
theorem zh_add {e : zr_R} (hh : zh_ok D cA RTg ro sz H0 H locs) (ha : ro a = none) (hs : sz ≤ a) (hr : RTg[r]? = some e) (hc : zh_cell D cA (zo_up ro a r) H a e) : zh_ok D cA RTg (zo_up ro a r) sz H0 H locs := by
  refine ⟨hh.1, hh.2.1, hh.2.2.1, fun b r' hb => ?_⟩
  by_cases hab : b = a
  · subst hab
    rw [zo_up_at] at hb
    cases hb
    exact ⟨e, hr, Or.inr hs, hc⟩
  · rw [zo_up_ne hab] at hb
    obtain ⟨e', h1, h2, h3⟩ := hh.2.2.2 b r' hb
    exact ⟨e', h1, h2, zh_cell_ext (zo_up_ext ha) h3⟩
/-- where no cell of a role has changed -/
theorem zh_same (hh : zh_ok D cA RTg ro sz H0 H locs) (hz : H.size ≤ H1.size) (hq : ∀ q : Nat, q < H.size → q < sz ∨ ro q ≠ none → H1[q]? = H[q]?) (hl : ∀ q ∈ locs1, sz ≤ q.base) : zh_ok D cA RTg ro sz H0 H1 locs1 := by
  refine ⟨Nat.le_trans hh.1 hz, fun q h => by rw [hq q (Nat.lt_of_lt_of_le h hh.1) (Or.inl h)]; exact hh.2.1 q h, hl, fun b r' hb => ?_⟩
  obtain ⟨e, h1, h2, h3⟩ := hh.2.2.2 b r' hb
  refine ⟨e, h1, h2, ?_⟩
  have e1 := hq b (zh_lt hh hb) (Or.inr (by rw [hb]; exact fun g => by cases g))
  unfold zh_cell at h3 ⊢
  rw [e1]
  exact h3
/-- within a constructor of the thing at a: what was there when it began (Hs), but a itself, is as it was -/
def zo_I (D : va_G) (cA : Nat → ClassId) (ro0 : Nat → Option Nat) (sz : Nat) (H0 Hs : Heap) (a : Nat) (ro : Nat → Option Nat) (H : Heap) (locs : List Loc) : Prop :=
  zh_ok D cA RTg ro sz H0 H locs ∧ (∀ q r, ro0 q = some r → ro q = some r) ∧ (∀ q, ro q ≠ ro0 q → Hs.size ≤ q) ∧ Hs.size ≤ H.size ∧ (∀ q : Nat, q < Hs.size → q ≠ a → H[q]? = Hs[q]?) ∧ ro a = none ∧ sz ≤ a ∧ a < Hs.size
theorem zo_none (hh : zh_ok D cA RTg ro sz H0 H locs) : ro H.size = none := by
  cases h : ro H.size with
  | none => rfl
  | some r => exact absurd (zh_lt hh h) (Nat.lt_irrefl _)
/-- a new cell with a role -/
theorem zo_I.cell {ro0 : Nat → Option Nat} {e : zr_R} (hI : zo_I D cA ro0 sz H0 Hs a ro H locs) (hz : H1.size = H.size + 1) (hq : ∀ q : Nat, q < H.size → H1[q]? = H[q]?) (hr : RTg[r]? = some e) (hc : zh_cell D cA (zo_up ro H.size r) H1 H.size e) : zo_I D cA ro0 sz H0 Hs a (zo_up ro H.size r) H1 locs := by
  obtain ⟨h1, h2, h3, h4, h5, h6, h7, h8⟩ := hI
  have hn := zo_none h1
  refine ⟨zh_add (zh_same h1 (by omega) (fun q g _ => hq q g) h1.2.2.1) hn h1.1 hr hc, fun q r' g => zo_up_ext hn q r' (h2 q r' g), fun q g => ?_, by omega, fun q g1 g2 => by rw [hq q (by omega)]; exact h5 q g1 g2, ?_, h7, h8⟩
  · by_cases e1 : q = H.size
    · omega
    · rw [zo_up_ne e1] at g
      exact h3 q g
  · rw [zo_up_ne (by omega)]; exact h6
/-- a new cell without one -/
theorem zo_I.grow {ro0 : Nat → Option Nat} (hI : zo_I D cA ro0 sz H0 Hs a ro H locs) (hz : H1.size = H.size + 1) (hq : ∀ q : Nat, q < H.size → H1[q]? = H[q]?) : zo_I D cA ro0 sz H0 Hs a ro H1 locs := by
  obtain ⟨h1, h2, h3, h4, h5, h6, h7, h8⟩ := hI
  exact ⟨zh_same h1 (by omega) (fun q g _ => hq q g) h1.2.2.1, h2, h3, by omega, fun q g1 g2 => by rw [hq q (by omega)]; exact h5 q g1 g2, h6, h7, h8⟩
/-- the thing itself is written -/
theorem zo_I.put {ro0 : Nat → Option Nat} {k : Nat} (hI : zo_I D cA ro0 sz H0 Hs a ro H locs) (hz : H1.size = H.size) (hq : ∀ q : Nat, q ≠ a → H1[q]? = H[q]?) : zo_I D cA ro0 sz H0 Hs a ro H1 (locs ++ [⟨a, k⟩]) := by
  obtain ⟨h1, h2, h3, h4, h5, h6, h7, h8⟩ := hI
  refine ⟨zh_same h1 (by omega) (fun q g1 g2 => hq q (fun e => ?_)) (fun q g => ?_), h2, h3, by omega, fun q g1 g2 => by rw [hq q g2]; exact h5 q g1 g2, h6, h7, h8⟩
  · subst e
    rcases g2 with g | g
    · omega
    · exact g h6
  · rcases List.mem_append.mp g with g | g
    · exact h1.2.2.1 q g
    · rw [List.mem_singleton.mp g]; exact h7
/-- behind the constructor of another, new thing b -/
theorem zo_I.call {ro0 : Nat → Option Nat} {b : Nat} (hI : zo_I D cA ro0 sz H0 Hs a ro H locs) (hb : Hs.size ≤ b) (he : ∀ q r, ro q = some r → ro' q = some r) (hn : ∀ q, ro' q ≠ ro q → q = b ∨ H.size ≤ q) (hh : zh_ok D cA RTg ro' sz H0 H1 locs1) (hz : H.size ≤ H1.size) (hq : ∀ q : Nat, q < H.size → q ≠ b → H1[q]? = H[q]?) : zo_I D cA ro0 sz H0 Hs a ro' H1 locs1 := by
  obtain ⟨h1, h2, h3, h4, h5, h6, h7, h8⟩ := hI
  refine ⟨hh, fun q r g => he q r (h2 q r g), fun q g => ?_, by omega, fun q g1 g2 => by rw [hq q (by omega) (by omega)]; exact h5 q g1 g2, ?_, h7, h8⟩
  · by_cases e1 : ro' q = ro q
    · exact h3 q (by rw [← e1]; exact g)
    · rcases hn q e1 with e2 | e2 <;> omega
  · by_cases e1 : ro' a = ro a
    · rw [e1]; exact h6
    · rcases hn a e1 with e2 | e2 <;> omega
end ZMK
def gNs : List (String × Nat × MethodName) := [("MomentTexts", 13, ⟨"MomentTexts$Leaps", "<init>", "()V"⟩), ("MomentTexts", 30, ⟨"MomentTexts$Rule", "<init>", "()V"⟩), ("MomentTexts", 37, ⟨"MomentTexts$Cursor", "<init>", "()V"⟩), ("MomentTexts", 44, ⟨"MomentTexts$Writer", "<init>", "()V"⟩), ("MomentTexts$FormReader", 11, ⟨"MomentTexts$DateText", "<init>", "()V"⟩), ("MomentTexts$FormReader", 20, ⟨"MomentTexts$TimeText", "<init>", "()V"⟩), ("MomentTexts$FormReader", 27, ⟨"MomentTexts$DurationText", "<init>", "()V"⟩), ("MomentTexts$Rule", 23, ⟨"MomentTexts$RuleDate", "<init>", "()V"⟩), ("MomentTexts$Zone", 25, ⟨"MomentTexts$Rule", "<init>", "()V"⟩)]
def zKo (D : va_G) (cA : Nat → ClassId) (ro : Nat → Option Nat) (sz : Nat) (H0 : Heap) : State → Prop := fun s => zKn D cA ro sz H0 s ∧ (∀ x ∈ gNs, va_Nw (.methodLinkNest x.1 x.2.1 x.2.2 "MomentTexts") s) ∧ va_AO "MomentTexts$Zone" s
theorem zKo.warm {D : va_G} {cA : Nat → ClassId} {ro : Nat → Option Nat} {sz : Nat} {H0 : Heap} {s U : State} (hW : s.WarmedH U.vm) (k : zKo D cA ro sz H0 s) : zKo D cA ro sz H0 U := ⟨zKb s U hW.alike k.1, fun x hx => va_Nw.warmM hW (k.2.1 x hx), va_AO.moved hW.alike k.2.2⟩
theorem zKo.same {D : va_G} {cA : Nat → ClassId} {ro : Nat → Option Nat} {sz : Nat} {H0 : Heap} {s U : State} (hv : U.vm = s.vm) (k : zKo D cA ro sz H0 s) : zKo D cA ro sz H0 U := ⟨zKb s U (by rw [hv]; exact Vm.Alike.refl s.vm) k.1, fun x hx => va_Nw.same rfl hv.symm (k.2.1 x hx), va_AO.moved (by rw [hv]; exact Vm.Alike.refl s.vm) k.2.2⟩
def zo_Pc (D : va_G) (cA : Nat → ClassId) (ro : Nat → Option Nat) (sz : Nat) (H0 : Heap) (ci N : Nat) (V0 : Nat → Value) (b : Nat) (As : List Value) : Array Value → State → Prop := fun args U => args = (Value.ref b :: As).toArray ∧ zh_ok D cA RTg ro sz H0 U.heap [] ∧ ro b = none ∧ sz ≤ b ∧ t_OB b (D.1 ci) N (D.2 ci) U.heap V0 ∧ zKo D cA ro sz H0 U
def zo_Qc (D : va_G) (cA : Nat → ClassId) (ro : Nat → Option Nat) (sz : Nat) (H0 : Heap) (r b : Nat) (E : (Nat → Option Nat) → Heap → Prop) : Array Value → State → Outcome → State → Prop := fun _ st oc t => oc = .returned none ∧ ∃ ro' : Nat → Option Nat, (∀ q r, ro q = some r → ro' q = some r) ∧ (∀ q, ro' q ≠ ro q → q = b ∨ st.heap.size ≤ q) ∧ ro' b = some r ∧ zh_ok D cA RTg ro' sz H0 t.heap [] ∧ st.heap.size ≤ t.heap.size ∧ (∀ q : Nat, q < st.heap.size → q ≠ b → t.heap[q]? = st.heap[q]?) ∧ E ro' t.heap
theorem zo_blind {D : va_G} {cA : Nat → ClassId} {ro : Nat → Option Nat} {sz : Nat} {H0 : Heap} {ci N : Nat} {V0 : Nat → Value} {b : Nat} {As : List Value} : FrameBlind (zo_Pc D cA ro sz H0 ci N V0 b As) := by
  intro a U g mk h
  obtain ⟨h1, h2, h3, h4, h5, h6⟩ := h
  exact ⟨h1, h2, h3, h4, h5, zKo.same (s := U) (U := U.calling g mk a) rfl h6⟩
theorem zKn.ext {D : va_G} {cA : Nat → ClassId} {ro ro' : Nat → Option Nat} {sz : Nat} {H0 : Heap} {s : State} (he : ∀ q r, ro q = some r → ro' q = some r) (h : zKn D cA ro sz H0 s) : zKn D cA ro' sz H0 s := by
  have f : ∀ {C n d : String} {r : Nat}, zS1 ro sz H0 C n d r s → zS1 ro' sz H0 C n d r s := fun ⟨a, h1, h2⟩ => ⟨a, he _ _ h1, h2⟩
  exact ⟨h.1, f h.2.1, f h.2.2.1, f h.2.2.2.1, h.2.2.2.2⟩
theorem zKo.ext {D : va_G} {cA : Nat → ClassId} {ro ro' : Nat → Option Nat} {sz : Nat} {H0 : Heap} {s : State} (he : ∀ q r, ro q = some r → ro' q = some r) (h : zKo D cA ro sz H0 s) : zKo D cA ro' sz H0 s := ⟨zKn.ext he h.1, h.2⟩
section ZMR
variable {p : Program} {l : Launch} {e : Env} {R : Room} {s : State} {m : MethodId} {args : Array Value} {below : List Frame} {meth : Method} {c : Code} {H : Heap} {locs : List Loc} {cells slots : Nat} {Q : State → Prop} {cc : ByteArray} {pc : Nat} {ls : Array Slot} {rest : List Value}
variable {D : va_G} {cA : Nat → ClassId} {ro0 ro : Nat → Option Nat} {sz : Nat} {H0 Hs : Heap} {a : Nat}
theorem zo_cA {tys : ClassId × FieldType} {ti : Nat} (hK : zK0 D cA s) (h : [(cA 0, FieldType.int), (cA 1, .long), (cA 2, .byte), (cA 3, .char), (cA 4, .object "MomentTexts$Zone")][ti]? = some tys) : va_RA s tys.1 tys.2 := (hK.2 ti tys h).2
/-- 'new T[n]', for n that is known -/
theorem zo_newa {atype : ArrayType} {n : Int32} {N ti r : Nat} {t : zt_T} (hx : p.tables.exec = Jvm.exec) (hb : c.code = cc) (hI : zo_I D cA ro0 sz H0 Hs a ro H locs) (harr : (Cond.arrayClass (newarray.typeOf atype)).before args s = true) (hcA : s.vm.findClass ("[" ++ (newarray.typeOf atype).toString) = some (cA ti)) (hr : RTg[r]? = some (1, ti, N, [t])) (hdv : ∀ ro, zt_ok ro (defaultValue (newarray.typeOf atype)) t) (hn : n.toInt = (N : Int)) (hby : N * componentBytes (newarray.typeOf atype) ≤ 536870912) (hc : cells + 1 ≤ R.cells) (hs : slots + N ≤ R.slots) (hd : decode cc pc = .ok (.newarray atype, 2))
    (kk : ∀ (b : Nat) (ro' : Nat → Option Nat) (H' : Heap), zo_I D cA ro0 sz H0 Hs a ro' H' locs → ro' b = some r → (∀ q r, ro q = some r → ro' q = some r) → (∀ q : Nat, q < H.size → H'[q]? = H[q]?) → b = H.size → H'.size = H.size + 1 → W p l e R s m args below meth c H' locs (cells + 1) (slots + N) Q (F0 m (pc + 2) ls (.ref b :: rest))) : W p l e R s m args below meth c H locs cells slots Q (F0 m pc ls (.int n :: rest)) := by
  refine va_newaK hx hb harr (g := F0 m pc ls (.int n :: rest)) rfl hd rfl (fun g => ?_) (N := N) (by show n.toInt.toNat = N; omega) hby hc hs (h := H.size) rfl (fun H' cA' e1 e2 e3 _ e5 => ?_)
  · have g := Int32.lt_iff_toInt_lt.mp g
    rw [hn, show (0 : Int32).toInt = 0 by decide] at g
    omega
  · cases hcA.symm.trans e5
    refine kk H.size (zo_up ro H.size r) H' (hI.cell e2 e3 hr ⟨_, e1, fun t' ht' j hj => ?_⟩) zo_up_at (zo_up_ext (zo_none hI.1)) e3 rfl e2
    cases ht'
    exact hdv _
/-- 'new C[n]' of references -/
theorem zo_anew {n : Int32} {N ti r : Nat} {own C : String} {idx : Nat} {t : zt_T} (hx : p.tables.exec = Jvm.exec) (hb : c.code = cc) (hI : zo_I D cA ro0 sz H0 Hs a ro H locs) (hown : s.vm.findClass own = some m.cls) (hclink : (Cond.classLink own idx C).before args s = true) (hover : (Cond.arrayOver (.object C)).before args s = true) (hcA : s.vm.findClass ("[" ++ (FieldType.object C).toString) = some (cA ti)) (hr : RTg[r]? = some (1, ti, N, [t])) (hdv : ∀ ro, zt_ok ro .null t) (hn : n.toInt = (N : Int)) (hby : N * 4 ≤ 536870912) (hc : cells + 1 ≤ R.cells) (hs : slots + N ≤ R.slots) (hd : decode cc pc = .ok (.anewarray idx, 3))
    (kk : ∀ (b : Nat) (ro' : Nat → Option Nat) (H' : Heap), zo_I D cA ro0 sz H0 Hs a ro' H' locs → ro' b = some r → (∀ q r, ro q = some r → ro' q = some r) → (∀ q : Nat, q < H.size → H'[q]? = H[q]?) → b = H.size → H'.size = H.size + 1 → W p l e R s m args below meth c H' locs (cells + 1) (slots + N) Q (F0 m (pc + 3) ls (.ref b :: rest))) : W p l e R s m args below meth c H locs cells slots Q (F0 m pc ls (.int n :: rest)) := by
  have eN : n.toNatClampNeg = N := by show n.toInt.toNat = N; omega
  refine W.anew hx hb hown hclink hover (g := F0 m pc ls (.int n :: rest)) rfl hd rfl (fun g => ?_) (by rw [eN]; exact hby) hc (by rw [eN]; exact hs) (fun cA' kA comp h1 _ _ _ => ?_)
  · have g := Int32.lt_iff_toInt_lt.mp g
    rw [hn, show (0 : Int32).toInt = 0 by decide] at g
    omega
  · cases hcA.symm.trans h1
    rw [eN]
    have e3 : ∀ q : Nat, q < H.size → (H.push { cls := cA ti, slots := Array.replicate N Value.null, vm := .none })[q]? = H[q]? := fun q hq => by rw [Array.getElem?_push, if_neg (by omega)]
    have e1 : (H.push { cls := cA ti, slots := Array.replicate N Value.null, vm := .none })[H.size]? = some (arrV (cA ti) N (fun _ => .null)) := by rw [Array.getElem?_push, if_pos rfl, arrV_new]
    refine kk H.size (zo_up ro H.size r) _ (hI.cell (by simp) e3 hr ⟨_, e1, fun t' ht' j hj => ?_⟩) zo_up_at (zo_up_ext (zo_none hI.1)) e3 rfl (by simp)
    cases ht'
    exact hdv _
/-- 'new C' -/
theorem zo_new {own C : String} {T : u_T} {N ci idx : Nat} (hx : p.tables.exec = Jvm.exec) (hb : c.code = cc) (hI : zo_I D cA ro0 sz H0 Hs a ro H locs) (hts : ∀ w ∈ gT, w.before args s = true) (hin : ∀ w ∈ u_ws C T N, w ∈ gT) (ty : Nat → FieldType) (hty : ∀ k, k < N → parseFieldDescriptor (T k).2.2.1 = some (ty k)) (hown : s.vm.findClass own = some m.cls) (hcl : Cond.classLink own idx C ∈ gT) (hins : Cond.instantiable C N ∈ gT) (hini : Cond.initialized C ∈ gT) (hK : zK0 D cA s) (hci : vwCl[ci]? = some (C, T, N)) (hc : cells + 1 ≤ R.cells) (hs : slots + N ≤ R.slots) (hd : decode cc pc = .ok (.new idx, 3))
    (kk : ∀ (b : Nat) (H' : Heap), zo_I D cA ro0 sz H0 Hs a ro H' locs → ro b = none → Hs.size ≤ b → b = H.size → t_OB b (D.1 ci) N (D.2 ci) H' (fun k => defaultValue (ty k)) → (∀ q : Nat, q < H.size → H'[q]? = H[q]?) → W p l e R s m args below meth c H' locs (cells + 1) (slots + N) Q (F0 m (pc + 3) ls (.ref b :: rest))) : W p l e R s m args below meth c H locs cells slots Q (F0 m pc ls rest) := by
  have hKn := hK.1 ci _ hci
  refine W.newcK hx hb hown (hts _ hcl) (hts _ hins) (hts _ hini) (g := F0 m pc ls rest) rfl hd hc hs hKn.2.1 (h := H.size) rfl (fun H' kC hkC e1 e2 e3 => ?_)
  exact kk H.size H' (hI.grow e2 e3) (zo_none hI.1) hI.2.2.2.1 rfl (u_born ty hts hin hKn hkC e1 hty) e3
/-- a field of the thing is written -/
theorem zo_putN {own C : String} {T : u_T} {N ci idx k : Nat} {V : Nat → Value} {v : Value} {ty : FieldType} (hx : p.tables.exec = Jvm.exec) (hb : c.code = cc) (hI : zo_I D cA ro0 sz H0 Hs a ro H locs) (hO : t_OB a (D.1 ci) N (D.2 ci) H V) (hts : ∀ w ∈ gT, w.before args s = true) (hin : ∀ w ∈ u_ws C T N, w ∈ gT) (ty0 : Nat → FieldType) (hty : ∀ k, k < N → parseFieldDescriptor (T k).2.2.1 = some (ty0 k)) (hnm : ∀ a, a < N → ∀ b, b < N → a ≠ b → (T a).2.1 ≠ (T b).2.1) (hown : s.vm.findClass own = some m.cls) (hK : zK0 D cA s) (hci : vwCl[ci]? = some (C, T, N)) (hk : k < N) (hl : Cond.fieldLink own idx (T k).1 (T k).2.1 (T k).2.2.1 ∈ gT) (hfin : (T k).2.2.2 = false) (hpd : parseFieldDescriptor (T k).2.2.1 = some ty) (hnv : narrow ty v = v) (hfv : fits ty v = true) (hd : decode cc pc = .ok (.putfield idx, 3))
    (kk : ∀ (H' : Heap) (locs' : List Loc), zo_I D cA ro0 sz H0 Hs a ro H' locs' → t_OB a (D.1 ci) N (D.2 ci) H' (updV V k v) → H'.size = H.size → (∀ q : Nat, q ≠ a → H'[q]? = H[q]?) → W p l e R s m args below meth c H' locs' cells slots Q (F0 m (pc + 3) ls rest)) : W p l e R s m args below meth c H locs cells slots Q (F0 m pc ls (v :: .ref a :: rest)) := by
  have hap := va_apart (own := own) hts hin ty0 hty hnm hK hci
  obtain ⟨cell, q1, q2, q3, q4⟩ := hO
  obtain ⟨hS, hfc, kC, hkC, hkind⟩ := hK.1 ci _ hci
  obtain ⟨cf, kf, fi, f, hi, hsl⟩ := hS k hk
  have hlay := hts _ (hin _ (u_in_lay hk))
  unfold u_lay at hlay
  rw [if_neg (by rw [hfin]; decide)] at hlay
  have hst := (u_facts hfc hkC (u_lays hts hin hk) hi).1
  have h6 := u_store hfc hkC hkind hlay hi hpd hnv hfv
  refine W.putK hx hb (f := f) ⟨hown, hts _ hl, ⟨_, _, _, hi⟩, hst⟩ (by rw [q2]; exact h6) q1 q3 (by rw [hsl]; exact k2_hasslot (q4 k hk)) rfl rfl hd fun H' e1 e2 e3 => ?_
  rw [hsl] at e1 ⊢
  exact kk H' _ (hI.put e2 e3) ⟨_, e1, q2, q3, t_set q4 hap hk v⟩ e2 e3
theorem zo_putF {own C : String} {T : u_T} {N ci idx k : Nat} {V : Nat → Value} {v : Value} {ty : FieldType} (hx : p.tables.exec = Jvm.exec) (hb : c.code = cc) (hI : zo_I D cA ro0 sz H0 Hs a ro H locs) (hO : t_OB a (D.1 ci) N (D.2 ci) H V) (hts : ∀ w ∈ gT, w.before args s = true) (hin : ∀ w ∈ u_ws C T N, w ∈ gT) (ty0 : Nat → FieldType) (hty : ∀ k, k < N → parseFieldDescriptor (T k).2.2.1 = some (ty0 k)) (hnm : ∀ a, a < N → ∀ b, b < N → a ≠ b → (T a).2.1 ≠ (T b).2.1) (hown : s.vm.findClass own = some m.cls) (hin2 : meth.name = "<init>") (hK : zK0 D cA s) (hci : vwCl[ci]? = some (C, T, N)) (hk : k < N) (hl : Cond.fieldLink own idx (T k).1 (T k).2.1 (T k).2.2.1 ∈ gT) (hfin : (T k).2.2.2 = true) (hdecl : (T k).1 = own) (hpd : parseFieldDescriptor (T k).2.2.1 = some ty) (hnv : narrow ty v = v) (hfv : fits ty v = true) (hd : decode cc pc = .ok (.putfield idx, 3))
    (kk : ∀ (H' : Heap) (locs' : List Loc), zo_I D cA ro0 sz H0 Hs a ro H' locs' → t_OB a (D.1 ci) N (D.2 ci) H' (updV V k v) → H'.size = H.size → (∀ q : Nat, q ≠ a → H'[q]? = H[q]?) → W p l e R s m args below meth c H' locs' cells slots Q (F0 m (pc + 3) ls rest)) : W p l e R s m args below meth c H locs cells slots Q (F0 m pc ls (v :: .ref a :: rest)) := by
  have hap := va_apart (own := own) hts hin ty0 hty hnm hK hci
  obtain ⟨cell, q1, q2, q3, q4⟩ := hO
  obtain ⟨hS, hfc, kC, hkC, hkind⟩ := hK.1 ci _ hci
  obtain ⟨cf, kf, fi, f, hi, hsl⟩ := hS k hk
  have hlay := hts _ (hin _ (u_in_lay hk))
  unfold u_lay at hlay
  rw [if_pos hfin] at hlay
  have hst := (u_facts hfc hkC (u_lays hts hin hk) hi).1
  have hcf : m.cls = cf := by
    obtain ⟨_, _, c', _, _, _, -, -, hf', -, -, -, hown2, -⟩ := Cond.laysFinal_spec hlay
    have e1 : c' = cf := by
      have := hi.symm.trans hf'
      simp at this
      exact this.1.symm
    rw [hdecl] at hown2
    rw [← e1]; exact Option.some.inj (hown.symm.trans hown2)
  have h6 := u_fits hfc hkC hkind (Or.inr hlay) hi hpd hnv hfv
  refine W.putFinK hx hb hown (hts _ hl) hi hst hcf hin2 (by rw [q2]; exact h6) q1 q3 (by rw [hsl]; exact k2_hasslot (q4 k hk)) rfl rfl hd fun H' e1 e2 e3 => ?_
  rw [hsl] at e1 ⊢
  exact kk H' _ (hI.put e2 e3) ⟨_, e1, q2, q3, t_set q4 hap hk v⟩ e2 e3
/-- a field of an object whose fields are known is read -/
theorem zo_get {own C : String} {T : u_T} {N ci idx k : Nat} {V : Nat → Value} {b : Nat} (hx : p.tables.exec = Jvm.exec) (hb : c.code = cc) (hO : t_OB b (D.1 ci) N (D.2 ci) H V) (hts : ∀ w ∈ gT, w.before args s = true) (hin : ∀ w ∈ u_ws C T N, w ∈ gT) (hown : s.vm.findClass own = some m.cls) (hK : zK0 D cA s) (hci : vwCl[ci]? = some (C, T, N)) (hk : k < N) (hl : Cond.fieldLink own idx (T k).1 (T k).2.1 (T k).2.2.1 ∈ gT) (hd : decode cc pc = .ok (.getfield idx, 3))
    (kk : W p l e R s m args below meth c H locs cells slots Q (F0 m (pc + 3) ls (V k :: rest))) : W p l e R s m args below meth c H locs cells slots Q (F0 m pc ls (.ref b :: rest)) := by
  obtain ⟨cell, q1, q2, q3, q4⟩ := hO
  obtain ⟨hS, hfc, kC, hkC, hkind⟩ := hK.1 ci _ hci
  obtain ⟨cf, kf, fi, f, hi, hsl⟩ := hS k hk
  have hst := (u_facts hfc hkC (u_lays hts hin hk) hi).1
  exact W.getf hx hb hown (hts _ hl) hi hst q1 (by rw [q3]; exact fun h => by cases h) (by rw [hsl]; exact q4 k hk) rfl rfl hd kk
/-- a constructor is called -/
theorem zo_call {y : MethodName} {bytes : ByteArray} {maxL nL mc ms idx : Nat} {rm : Room} {own : String} {x0 : Cond} {b ci N r : Nat} {V0 : Nat → Value} {As : List Value} {E : (Nat → Option Nat) → Heap → Prop} (hx : p.tables.exec = Jvm.exec) (hb : c.code = cc) (hml : c.maxLocals = nL) (hown : s.vm.findClass own = some m.cls) (hts : ∀ w ∈ x0 :: gT, w.before args s = true)
    (hM : Met l y (gW y bytes maxL none) rm (zo_Pc D cA ro sz H0 ci N V0 b As) (zo_Qc D cA ro sz H0 r b E) mc ms (zy_fr sz)) (h0 : rm.cells = mc ∧ rm.slots = ms) (hR : rm.frames + 1 ≤ R.frames ∧ 8 + (maxL + 11) + rm.locals ≤ R.locals) (hf : cells + mc ≤ R.cells ∧ slots + ms ≤ R.slots)
    (hc : Cond.code y bytes maxL none ∈ gT) (hi : Cond.initialized y.cls ∈ gT) (hl : Cond.methodLink own idx y ∈ gT) (hin : Cond.instanceMethod y ∈ gT) (hy : y.name = "<init>") (hd : y.cls ≠ "java/lang/invoke/MethodHandle" ∧ y.cls ≠ "java/lang/invoke/VarHandle" ∧ (parseMethodDescriptor y.desc).map (fun d => d.parameters.length) = some As.length)
    (hh : zh_ok D cA RTg ro sz H0 H locs) (hrb : ro b = none) (hsb : sz ≤ b) (hO : t_OB b (D.1 ci) N (D.2 ci) H V0) (hKn : zKo D cA ro sz H0 s) (hsize : ls.size = nL) (hwt : (rest.map fun v => v.category).sum ≤ 8) (hdg : decode cc pc = .ok (.invokespecial idx, 3))
    (kk : ∀ (H' : Heap) (locs' : List Loc) (ro' : Nat → Option Nat), (∀ q r, ro q = some r → ro' q = some r) → (∀ q, ro' q ≠ ro q → q = b ∨ H.size ≤ q) → ro' b = some r → zh_ok D cA RTg ro' sz H0 H' locs' → H.size ≤ H'.size → (∀ q : Nat, q < H.size → q ≠ b → H'[q]? = H[q]?) → E ro' H' → W p l e R s m args below meth c H' locs' (cells + mc) (slots + ms) Q (F0 m (pc + 3) ls rest)) :
    W p l e R s m args below meth c H locs cells slots Q (F0 m pc ls (As.reverse ++ .ref b :: rest)) := by
  have h2 : ∀ w ∈ gT, w.before args s = true := fun w hw => hts w (List.mem_cons_of_mem _ hw)
  have hr := va_runI (p := p) (l := l) (e := e) (R := R) (below := below) (meth := meth) (H := H) (locs := locs) (cells := cells) (slots := slots) (As := As) (rest := rest) (b := b) (g := F0 m pc ls (As.reverse ++ .ref b :: rest)) ⟨hx, hb, hml, hown, hts⟩ hM ⟨callB_of As.length hts (gT_gi hc) rfl h0.1 h0.2 (h2 _ hi) (h2 _ hl) hd hR, hy, h2 _ hin⟩ ⟨zo_blind, fun U hU hW => ⟨rfl, by rw [hU]; exact hh.l0, hrb, hsb, by rw [hU]; exact hO, zKo.warm hW hKn⟩⟩ rfl rfl hsize rfl (lv_room hwt) hdg hf
  intro T hT X
  obtain ⟨v, st0, t, T', L, g0, X', hL, e1, e2, hq, go⟩ := hr T hT X
  obtain ⟨q1, ro', q2, q3, q4, q5, q6, q7, q8⟩ := hq
  cases q1
  rw [g0] at q3 q6 q7
  have hh' : zh_ok D cA RTg ro' sz H0 t.heap (locs ++ L) := ⟨q5.1, q5.2.1, fun q hq => (List.mem_append.mp hq).elim (hh.2.2.1 q) (hL q), q5.2.2.2⟩
  obtain ⟨tt, b1, b2⟩ := kk t.heap (locs ++ L) ro' q2 q3 q4 hh' q6 q7 q8 T' e1 X'
  exact ⟨tt, go tt b1, b2⟩
/-- .. a private one of a nest mate -/
theorem zo_callN {y : MethodName} {bytes : ByteArray} {maxL nL mc ms idx : Nat} {rm : Room} {own : String} {x0 : Cond} {b ci N r : Nat} {V0 : Nat → Value} {As : List Value} {E : (Nat → Option Nat) → Heap → Prop} (hx : p.tables.exec = Jvm.exec) (hb : c.code = cc) (hml : c.maxLocals = nL) (hown : s.vm.findClass own = some m.cls) (hts : ∀ w ∈ x0 :: gT, w.before args s = true)
    (hM : Met l y (gW y bytes maxL none) rm (zo_Pc D cA ro sz H0 ci N V0 b As) (zo_Qc D cA ro sz H0 r b E) mc ms (zy_fr sz)) (h0 : rm.cells = mc ∧ rm.slots = ms) (hR : rm.frames + 1 ≤ R.frames ∧ 8 + (maxL + 11) + rm.locals ≤ R.locals) (hf : cells + mc ≤ R.cells ∧ slots + ms ≤ R.slots)
    (hc : Cond.code y bytes maxL none ∈ gT) (hi : Cond.initialized y.cls ∈ gT) (hl : (own, idx, y) ∈ gNs) (hin : Cond.instanceMethod y ∈ gT) (hy : y.name = "<init>") (hd : y.cls ≠ "java/lang/invoke/MethodHandle" ∧ y.cls ≠ "java/lang/invoke/VarHandle" ∧ (parseMethodDescriptor y.desc).map (fun d => d.parameters.length) = some As.length)
    (hh : zh_ok D cA RTg ro sz H0 H locs) (hrb : ro b = none) (hsb : sz ≤ b) (hO : t_OB b (D.1 ci) N (D.2 ci) H V0) (hKn : zKo D cA ro sz H0 s) (hsize : ls.size = nL) (hwt : (rest.map fun v => v.category).sum ≤ 8) (hdg : decode cc pc = .ok (.invokespecial idx, 3))
    (kk : ∀ (H' : Heap) (locs' : List Loc) (ro' : Nat → Option Nat), (∀ q r, ro q = some r → ro' q = some r) → (∀ q, ro' q ≠ ro q → q = b ∨ H.size ≤ q) → ro' b = some r → zh_ok D cA RTg ro' sz H0 H' locs' → H.size ≤ H'.size → (∀ q : Nat, q < H.size → q ≠ b → H'[q]? = H[q]?) → E ro' H' → W p l e R s m args below meth c H' locs' (cells + mc) (slots + ms) Q (F0 m (pc + 3) ls rest)) :
    W p l e R s m args below meth c H locs cells slots Q (F0 m pc ls (As.reverse ++ .ref b :: rest)) := by
  have h2 : ∀ w ∈ gT, w.before args s = true := fun w hw => hts w (List.mem_cons_of_mem _ hw)
  have hr := va_runIN (p := p) (l := l) (e := e) (R := R) (below := below) (meth := meth) (H := H) (locs := locs) (cells := cells) (slots := slots) (As := As) (rest := rest) (b := b) (g := F0 m pc ls (As.reverse ++ .ref b :: rest)) ⟨hx, hb, hml, hown, hts⟩ hM ⟨va_cnB As.length hts (gT_gi hc) rfl h0.1 h0.2 (hKn.2.1 _ hl) (h2 _ hi) hd hR, hy, h2 _ hin⟩ ⟨zo_blind, fun U hU hW => ⟨rfl, by rw [hU]; exact hh.l0, hrb, hsb, by rw [hU]; exact hO, zKo.warm hW hKn⟩⟩ rfl rfl hsize rfl (lv_room hwt) hdg hf
  intro T hT X
  obtain ⟨v, st0, t, T', L, g0, X', hL, e1, e2, hq, go⟩ := hr T hT X
  obtain ⟨q1, ro', q2, q3, q4, q5, q6, q7, q8⟩ := hq
  cases q1
  rw [g0] at q3 q6 q7
  have hh' : zh_ok D cA RTg ro' sz H0 t.heap (locs ++ L) := ⟨q5.1, q5.2.1, fun q hq => (List.mem_append.mp hq).elim (hh.2.2.1 q) (hL q), q5.2.2.2⟩
  obtain ⟨tt, b1, b2⟩ := kk t.heap (locs ++ L) ro' q2 q3 q4 hh' q6 q7 q8 T' e1 X'
  exact ⟨tt, go tt b1, b2⟩
/-- a constructor's end: the thing has its role -/
theorem zo_ret {ci N r n : Nat} {fs : List zt_T} {V : Nat → Value} {E : (Nat → Option Nat) → Heap → Prop} (hE9 : E (zo_up ro a r) H) (hx : p.tables.exec = Jvm.exec) (hb : c.code = cc) (hr : meth.sig.returnType = none) (hlocks : meth.locks = false) (hI : zo_I D cA ro0 sz H0 s.heap a ro H locs) (hO : t_OB a (D.1 ci) N (D.2 ci) H V) (hRT : RTg[r]? = some (0, ci, n, fs)) (hty : ∀ (k : Nat) (t : zt_T), fs[k]? = some t → k < N ∧ zt_ok ro (V k) t) (hd : decode cc pc = .ok (.return_, 1)) :
    W p l e R s m args below meth c H locs cells slots (MQ below (zo_Qc D cA ro0 sz H0 r a E) args s cells slots (zy_fr sz)) (F0 m pc ls []) := by
  obtain ⟨h1, h2, h3, h4, h5, h6, h7, h8⟩ := hI
  have hE := zo_up_ext (r := r) h6
  obtain ⟨cell, q1, q2, q3, q4⟩ := hO
  have hc : zh_cell D cA (zo_up ro a r) H a (0, ci, n, fs) := ⟨cell, q1, q2, q3, fun k t hk => ⟨V k, q4 k (hty k t hk).1, (hty k t hk).2.ext hE⟩⟩
  refine W.vret hx hb hr (fun t ht hW => ⟨rfl, zo_up ro a r, fun q r' g => hE q r' (h2 q r' g), fun q g => ?_, zo_up_at, by rw [ht]; exact (zh_add h1 h6 h7 hRT hc).l0, by rw [ht]; exact h4, fun q g1 g2 => by rw [ht]; exact h5 q g1 g2, by rw [ht]; exact hE9⟩) h1.2.2.1 hd
  by_cases e1 : q = a
  · exact Or.inl e1
  · rw [zo_up_ne e1] at g
    exact Or.inr (h3 q g)
end ZMR
/-- a field of what is being made, and of what is not touched -/
theorem zo_fO {D : va_G} {ci N a k : Nat} {H : Heap} {V : Nat → Value} (hO : t_OB a (D.1 ci) N (D.2 ci) H V) (hk : k < N) : zh_f D H a ci k = V k := by
  obtain ⟨cell, q1, q2, q3, q4⟩ := hO
  simp [zh_f, q1, q4 k hk]
theorem zh_fq {D : va_G} {H H' : Heap} {a ci k : Nat} {v : Value} (h : H'[a]? = H[a]?) (h2 : zh_f D H a ci k = v) : zh_f D H' a ci k = v := by
  rw [← h2]; unfold zh_f; rw [h]
