/-! contracts of methods, and the rows of calls out of them -/
theorem zy_ofW {l : Launch} {y : MethodName} {ws ws' : List Cond} {rm : Room} {Pc : Array Value → State → Prop} {Qc : Array Value → State → Outcome → State → Prop} {mc ms : Nat} {free : Addr → Prop} {cc : ByteArray} {maxL : Nat} {ret : Option FieldType}
    (hy : plainFor y = true) (hw : ws = Cond.code y cc maxL ret :: ws')
    (body : ∀ p e s m args below meth c s₁, BodyLoose p l y (headSpec ws rm) cc maxL ret e s m args below meth c s₁ → c.maxLocals = maxL → Pc args s →
      W p l e (headSpec ws rm).room s m args below meth c s.heap [] 0 0 (MQ below Qc args s mc ms free) (entryFrame m args maxL)) : Met l y ws rm Pc Qc mc ms free := by
  refine MetFree.of_bodySF (code := cc) (maxLocals := maxL) (ret := ret) hy ?_ ?_
  · intro args s m h hn
    obtain ⟨meth, c, h1, h2, h3, h4, h5, h6, -, -⟩ := Cond.code_spec hn (atoms_spec (ws := ws) h _ (by rw [hw]; exact List.mem_cons_self))
    exact ⟨meth, c, h1, h2, h3, h4, h5, h6⟩
  · intro p e s m args below meth c s₁ B hml hP _
    have hh0 : s₁.heap = s.heap := by rw [B.state]; rfl
    obtain ⟨t, a1, o, b1, b2, b3⟩ := body p e s m args below meth c s₁ B hml hP s₁ hh0 (Stand.of_body B)
    exact ⟨t, o, a1, b1, b2, ⟨b3.1, b3.2⟩⟩
def zy_Pc (D : va_G) (cA : Nat → ClassId) (RT : List zr_R) (ro : Nat → Option Nat) (sz : Nat) (H0 : Heap) (Kn : State → Prop) (k : zc_C) : Array Value → State → Prop := fun a U => ∃ vs : List Value, a = vs.toArray ∧ zh_ok D cA RT ro sz H0 U.heap [] ∧ zc_pre D RT ro k U.heap vs ∧ Kn U
def zy_Qc (D : va_G) (cA : Nat → ClassId) (RT : List zr_R) (ro : Nat → Option Nat) (sz : Nat) (H0 : Heap) (k : zc_C) : Array Value → State → Outcome → State → Prop := fun a st oc t => ∃ (vs : List Value) (x : Option Value), a = vs.toArray ∧ oc = .returned x ∧ zh_ok D cA RT ro sz H0 t.heap [] ∧ zc_kept D RT ro k.2.2.2.1 st.heap t.heap ∧ ∃ al ∈ k.2.2.2.2.2, zc_post D RT ro k al st.heap t.heap vs x
def zy_fr (sz : Nat) : Addr → Prop := fun q => sz ≤ q
def zy_M (l : Launch) (D : va_G) (cA : Nat → ClassId) (RT : List zr_R) (ro : Nat → Option Nat) (sz : Nat) (H0 : Heap) (Kn : State → Prop) (y : MethodName) (ws : List Cond) (rm : Room) (k : zc_C) : Prop := Met l y ws rm (zy_Pc D cA RT ro sz H0 Kn k) (zy_Qc D cA RT ro sz H0 k) 0 0 (zy_fr sz)
/-- what is known of the tables doesn't hang on frames or heap -/
def zy_Kb (Kn : State → Prop) : Prop := (∀ (u U : State), u.vm.Alike U.vm → Kn u → Kn U)
section ZY
variable {p : Program} {l : Launch} {e : Env} {R : Room} {s : State} {m : MethodId} {args : Array Value} {below : List Frame} {meth : Method} {c : Code} {cells slots : Nat} {Q : State → Prop} {cc bytes : ByteArray}
variable {D : va_G} {cA : Nat → ClassId} {RT : List zr_R} {ro : Nat → Option Nat} {sz : Nat} {H0 : Heap} {Kn : State → Prop} {k : zc_C} {y : MethodName} {ws : List Cond} {rm : Room} {nL maxL idx n pc : Nat} {ret : Option FieldType} {Ts : List Cond} {own C : String}
theorem zh_ok.l0 {H : Heap} {locs : List Loc} (h : zh_ok D cA RT ro sz H0 H locs) : zh_ok D cA RT ro sz H0 H [] := ⟨h.1, h.2.1, fun q hq => (by cases hq), h.2.2.2⟩
theorem zy_blind (hKb : zy_Kb Kn) : FrameBlind (zy_Pc D cA RT ro sz H0 Kn k) := by
  intro a U g mk h
  obtain ⟨vs, h1, h2, h3, h4⟩ := h
  exact ⟨vs, h1, h2, h3, hKb U (U.calling g mk a) (Vm.Alike.refl U.vm) h4⟩
theorem zt_arr_inj {a b : List Value} (h : a.toArray = b.toArray) : a = b := by
  have := congrArg Array.toList h
  simpa using this
theorem zy_run {H : Heap} {locs : List Loc} {ls : Array Slot} {st vs : List Value} {a : Array Value} {g : JFrame} (hh : zh_ok D cA RT ro sz H0 H locs) (ha : a = vs.toArray) (hg : g = F0 m pc ls g.stack)
    (hr : va_Run p l e R s m args below meth c H locs cells slots 0 0 g st (zy_Qc D cA RT ro sz H0 k a) (zy_fr sz))
    (kk : ∀ H' locs' x, zh_ok D cA RT ro sz H0 H' locs' → zc_kept D RT ro k.2.2.2.1 H H' → (∃ al ∈ k.2.2.2.2.2, zc_post D RT ro k al H H' vs x) → W p l e R s m args below meth c H' locs' cells slots Q (F0 m (pc + 3) ls (x.toList ++ st))) : W p l e R s m args below meth c H locs cells slots Q g := by
  intro T hT X
  obtain ⟨v, st0, t, T', L, h0, X', hL, e1, e2, hq, go⟩ := hr T hT X
  obtain ⟨vs', x, q1, q2, q3, q4, q5⟩ := hq
  have hvs : vs' = vs := zt_arr_inj (by rw [← q1, ha])
  subst hvs
  cases q2
  rw [h0] at q4 q5
  have hh' : zh_ok D cA RT ro sz H0 t.heap (locs ++ L) := ⟨q3.1, q3.2.1, fun q hq => (List.mem_append.mp hq).elim (hh.2.2.1 q) (hL q), q3.2.2.2⟩
  obtain ⟨tt, b1, b2⟩ := kk t.heap (locs ++ L) v hh' q4 q5 T' e1 X'
  refine ⟨tt, go tt ?_, b2⟩
  rw [hg]
  exact b1
theorem zy_rowS (S : CallFix p m c cc nL s args Ts own) (hM : zy_M l D cA RT ro sz H0 Kn y ws rm k) (cw : CallB R s args own idx y bytes maxL ret ws rm 0 0 k.1.length ∧ (Cond.static y).before args s = true) (hKn : Kn s) (hKb : zy_Kb Kn) (hf : cells ≤ R.cells ∧ slots ≤ R.slots) (hd : decode cc pc = .ok (.invokestatic idx, 3)) :
    zc_row D cA RT ro sz H0 nL (fun pc H locs ls st => W p l e R s m args below meth c H locs cells slots Q (F0 m pc ls st)) pc (pc + 3) k := by
  intro H locs ls st vs hz hwt hh hp kk
  refine zy_run (pc := pc) (ls := ls) (a := vs.toArray) hh rfl rfl (va_runS (As := vs) (rest := st) S hM cw ⟨zy_blind hKb, fun U hU hW => ⟨vs, rfl, by rw [hU]; exact hh.l0, by rw [hU]; exact hp, hKb s U hW.alike hKn⟩⟩ rfl (zt_all_len hp.1) hz rfl (lv_room hwt) hd hf) kk
theorem zy_rowV {r ci n0 : Nat} {fs : List zt_T} {lo hi : Int} {ts : List zt_T} (S : CallFix p m c cc nL s args Ts own) (hM : zy_M l D cA RT ro sz H0 Kn y ws rm k) (cw : CallW R s args own C idx y bytes maxL ret ws rm 0 0 ts.length) (hk : k.1 = (4 + 2 * r, lo, hi) :: ts) (hr : RT[r]? = some (0, ci, n0, fs)) (hC : s.vm.findClass C = some (D.1 ci)) (hKn : Kn s) (hKb : zy_Kb Kn) (hf : cells ≤ R.cells ∧ slots ≤ R.slots) (hd : decode cc pc = .ok (.invokevirtual idx, 3)) :
    zc_row D cA RT ro sz H0 nL (fun pc H locs ls st => W p l e R s m args below meth c H locs cells slots Q (F0 m pc ls st)) pc (pc + 3) k := by
  intro H locs ls st vs hz hwt hh hp kk
  have h1 := hp.1
  rw [hk] at h1
  match vs, h1 with
  | x0 :: vs, h1 =>
    obtain ⟨a, rfl, ha⟩ : ∃ a : Nat, x0 = .ref a ∧ ro a = some r := by
      have h4 := h1.1
      rw [show 4 + 2 * r = 2 * r + 4 by omega] at h4
      rcases h4 with ⟨h5, -⟩ | ⟨a, h5, h6⟩
      · omega
      · exact ⟨a, h5, by rw [show 2 * r / 2 = r by omega] at h6; exact h6⟩
    obtain ⟨-, cell, c1, c2, c3, -⟩ := zh_obj hh ha hr
    rw [List.reverse_cons, List.append_assoc]
    refine zy_run (vs := .ref a :: vs) (pc := pc) (ls := ls) (a := (Value.ref a :: vs).toArray) hh rfl rfl (va_runV (b := a) (As := vs) (rest := st) S hM cw ⟨zy_blind hKb, ⟨cell, c1, by rw [c3]; rfl, by rw [c2]; exact hC⟩, fun U hU hW => ⟨.ref a :: vs, rfl, by rw [hU]; exact hh.l0, by rw [hU]; exact hp, hKb s U hW.alike hKn⟩⟩ rfl (zt_all_len h1.2) hz rfl (lv_room hwt) hd hf) kk
/-- the checks of a method -/
def zy_ck (K : zk_K) (tb : List (Nat × Instr × Nat)) (pts : List zp_P) (k : zc_C) (rc N fuel : Nat) : Bool := zk_ps K tb pts k rc (k.1.length + k.2.1.length) N fuel && zb_wf (ze_mk k) && zk K tb pts k rc (k.1.length + k.2.1.length) false fuel false 0 (ze_mk k) && ze_ok K.2.1 k
theorem zy_body {zn : String} {K : zk_K} {tb : List (Nat × Instr × Nat)} {pts : List zp_P} {rc N fuel : Nat} {vs : List Value} {ls : Array Slot} (hM : zk_M p l e R s m args below meth c cells slots Q cc D cA ro sz H0 zn K) (hE : zk_E p l e R s m args below meth c cells slots Q cc D cA ro sz H0 K k rc vs) (hdec : ∀ x ∈ tb, decode cc x.1 = .ok x.2) (hc : zy_ck K tb pts k rc N fuel = true) (hp : zc_pre D K.2.1 ro k s.heap vs) (hh : zh_ok D cA K.2.1 ro sz H0 s.heap []) (hl : lv_has ls K.1 (lv_args 0 vs)) :
    W p l e R s m args below meth c s.heap [] cells slots Q (F0 m 0 ls []) := by
  unfold zy_ck at hc
  simp only [Bool.and_eq_true] at hc
  obtain ⟨⟨⟨h1, h2⟩, h3⟩, h4⟩ := hc
  obtain ⟨g1, g2⟩ := ze_mk_ok h4 hp hl
  have hlen : (vs.map zi_of ++ k.2.1.map (fun e => zi_of (zc_fv D K.2.1 s.heap vs e.1))).length = k.1.length + k.2.1.length := by
    simp [zt_all_len hp.1]
  rw [← hlen] at h1 h3
  have hP := zk_points hM hE hdec rfl g2 h1
  have h5 := zk_sound (mb := false) (m0 := []) hM hE hdec rfl g2 (fun P hPm v H locs ls st hs hh _ => hP P hPm v H locs ls st hs hh) fuel false 0 (ze_mk k) h3
  rw [List.append_nil] at h5
  exact h5 (zb_wf_ok h2) _ _ _ _ _ g1 hh (⟨fun a r j ci n fs _ _ _ _ => rfl, fun _ _ _ _ _ _ _ _ _ => rfl⟩)
end ZY
/-- how an alternative's answer fits a way to return -/
def zy_rk (rc : Nat) (ret : Option FieldType) (t : Option zt_T) : Bool := match rc, ret, t with
  | 1, some .int, some (0, _, _) => true
  | 1, some .boolean, some (0, lo, hi) => decide (0 ≤ lo) && decide (hi ≤ 1)
  | 2, some .long, some (1, _, _) => true
  | 3, some (.object _), some (_ + 4, _, _) => true
  | 4, none, none => true
  | _, _, _ => false
theorem zn_bool {x : Int32} (h1 : 0 ≤ x.toInt) (h2 : x.toInt ≤ 1) : narrow .boolean (.int x) = .int x := by
  rcases (show x.toInt = 0 ∨ x.toInt = 1 by omega) with h | h
  · have : x = 0 := Int32.toInt_inj.mp h
    rw [this]; rfl
  · have : x = 1 := Int32.toInt_inj.mp h
    rw [this]; rfl
theorem zy_ret {p : Program} {l : Launch} {e : Env} {R : Room} {s : State} {m : MethodId} {args : Array Value} {below : List Frame} {meth : Method} {c : Code} {cells slots : Nat} {cc : ByteArray} {D : va_G} {cA : Nat → ClassId} {ro : Nat → Option Nat} {sz : Nat} {H0 : Heap} {K : zk_K} {k : zc_C} {rc : Nat} {ret : Option FieldType} {vs : List Value}
    (hx : p.tables.exec = Jvm.exec) (hb : c.code = cc) (hr : meth.sig.returnType = ret) (hlocks : meth.locks = false) (ha : args = vs.toArray) (hms : K.2.2.2.2.2.2.2.1 = k.2.2.2.1) (hk : k.2.2.2.2.2.all (fun al => zy_rk rc ret al.1) = true)
    {pc : Nat} {i : Instr} {H : Heap} {locs : List Loc} {ls : Array Slot} {x : Option Value} (hd : decode cc pc = .ok (i, 1)) (hi : zk_ir i = rc) (hh : zh_ok D cA K.2.1 ro sz H0 H locs) (hkp : zc_kept D K.2.1 ro K.2.2.2.2.2.2.2.1 s.heap H) (hal : ∃ al ∈ k.2.2.2.2.2, zc_post D K.2.1 ro k al s.heap H vs x) :
    W p l e R s m args below meth c H locs cells slots (MQ below (zy_Qc D cA K.2.1 ro sz H0 k) args s cells slots (zy_fr sz)) (F0 m pc ls x.toList) := by
  have hq : ∀ t : State, t.heap = H → s.WarmedH t.vm → zy_Qc D cA K.2.1 ro sz H0 k args s (.returned x) t := fun t ht _ => ⟨vs, x, ha, rfl, by rw [ht]; exact hh.l0, by rw [ht, ← hms]; exact hkp, by rw [ht]; exact hal⟩
  have hf : ∀ q ∈ locs, zy_fr sz q.base := hh.2.2.1
  obtain ⟨al, hal, hres, -⟩ := hal
  replace hk := List.all_eq_true.mp hk al hal
  unfold zy_rk at hk
  split at hk
  · rename_i lo hi' e3
    rw [e3] at hres
    match x, hres with
    | some x, hres =>
      obtain ⟨y, rfl, -, -⟩ := hres
      have : i = .ireturn := by cases i <;> first | rfl | (simp [zk_ir] at hi)
      subst this
      exact W.zret hx hb hr rfl hq hf hd
  · rename_i lo hi' e3
    rw [e3] at hres
    rw [Bool.and_eq_true] at hk
    match x, hres with
    | some x, hres =>
      obtain ⟨y, rfl, y1, y2⟩ := hres
      dsimp only at y1 y2
      have h1 := of_decide_eq_true hk.1
      have h2 := of_decide_eq_true hk.2
      have : i = .ireturn := by cases i <;> first | rfl | (simp [zk_ir] at hi)
      subst this
      exact W.zret hx hb hr (zn_bool (by omega) (by omega)) hq hf hd
  · rename_i lo hi' e3
    rw [e3] at hres
    match x, hres with
    | some x, hres =>
      obtain ⟨y, rfl, -, -⟩ := hres
      have : i = .lreturn := by cases i <;> first | rfl | (simp [zk_ir] at hi)
      subst this
      exact W.lret hx hb hr hq hf hd
  · rename_i nm j lo hi' e3
    rw [e3] at hres
    match x, hres with
    | some x, hres =>
      have : i = .areturn := by cases i <;> first | rfl | (simp [zk_ir] at hi)
      subst this
      refine W.aret hx hb hr (Or.inl ⟨_, rfl⟩) ?_ hq hf hd
      rcases hres with ⟨-, h⟩ | ⟨a, h, -⟩
      · exact Or.inl h
      · exact Or.inr ⟨a, h⟩
  · rename_i e3
    rw [e3] at hres
    match x, hres with
    | none, _ =>
      have : i = .return_ := by cases i <;> first | rfl | (simp [zk_ir] at hi)
      subst this
      exact W.vret hx hb hr hq hf hd
  · cases hk
/-- the weight of the arguments -/
def zy_aw (ts : List zt_T) : Nat := (ts.map (fun t => match Nat.beq t.1 1 with
  | true => 2
  | false => 1)).sum
theorem zy_aw_ok {ro : Nat → Option Nat} : ∀ {vs : List Value} {ts : List zt_T}, zt_all ro vs ts → (lg_sl vs).length ≤ zy_aw ts
  | [], [], _ => Nat.le_refl _
  | x :: vs, t :: ts, h => by
    have h2 := zy_aw_ok h.2
    have e1 : lg_sl (x :: vs) = (if x.category = 2 then [.val x, .second] else [.val x]) ++ lg_sl vs := rfl
    have e2 : zy_aw (t :: ts) = (match Nat.beq t.1 1 with
      | true => 2
      | false => 1) + zy_aw ts := by simp [zy_aw]
    rw [e1, e2, List.length_append]
    obtain ⟨kt, lo, hi⟩ := t
    by_cases g : kt = 1
    · subst g
      obtain ⟨y, rfl, -, -⟩ := h.1
      have : (if (Value.long y).category = 2 then [Slot.val (.long y), .second] else [.val (.long y)]).length = 2 := rfl
      rw [this]
      show 2 + _ ≤ 2 + _
      omega
    · have hc : ¬ x.category = 2 := by
        have h1 := h.1
        match kt, h1 with
        | 0, h1 => obtain ⟨y, rfl, -⟩ := h1; simp [Value.category]
        | 1, _ => exact absurd rfl g
        | 2, h1 => rw [show x = .null from h1]; decide
        | 3, h1 => exact h1.elim
        | k + 4, h1 =>
          rcases h1 with ⟨-, rfl⟩ | ⟨a, rfl, -⟩
          · decide
          · simp [Value.category]
      rw [if_neg hc, show Nat.beq kt 1 = false by
        cases g2 : Nat.beq kt 1 with
        | true => exact absurd (Nat.eq_of_beq_eq_true g2) g
        | false => rfl]
      show 1 + _ ≤ 1 + _
      omega
  | [], _ :: _, h => h.elim
  | _ :: _, [], h => h.elim
/-- a method's contract out of its checks -/
theorem zy_met {l : Launch} {D : va_G} {cA : Nat → ClassId} {ro : Nat → Option Nat} {sz : Nat} {H0 : Heap} {Kn : State → Prop} {k : zc_C} {y : MethodName} {ws ws' : List Cond} {rm : Room} {cc : ByteArray} {maxL : Nat} {ret : Option FieldType} {zn : String} {K : zk_K} {tb : List (Nat × Instr × Nat)} {pts : List zp_P} {rc N fuel : Nat}
    (hy : plainFor y = true) (hw : ws = Cond.code y cc maxL ret :: ws') (hK1 : K.1 = maxL) (haw : zy_aw k.1 ≤ maxL) (hms : K.2.2.2.2.2.2.2.1 = k.2.2.2.1) (hlf : K.2.2.2.2.2.2.2.2 = []) (hrc : k.2.2.2.2.2.all (fun al => zy_rk rc ret al.1) = true) (hdec : ∀ x ∈ tb, decode cc x.1 = .ok x.2) (hc : zy_ck K tb pts k rc N fuel = true)
    (hMM : ∀ (p : Program) (e : Env) (s : State) (m : MethodId) (args : Array Value) (below : List Frame) (meth : Method) (c : Code) (Q : State → Prop), p.tables.exec = Jvm.exec → c.code = cc → c.maxLocals = maxL → s.vm.findClass y.cls = some m.cls → (∀ w ∈ ws, w.before args s = true) → Kn s → zk_M p l e (headSpec ws rm).room s m args below meth c 0 0 Q cc D cA ro sz H0 zn K) : zy_M l D cA K.2.1 ro sz H0 Kn y ws rm k := by
  refine zy_ofW (cc := cc) (maxL := maxL) (ret := ret) hy hw ?_
  intro p e s m args below meth c s1 B hml hv
  obtain ⟨vs, rfl, hh, hp, hKn⟩ := hv
  have hl := lv_entry vs (n := maxL) (Nat.le_trans (zy_aw_ok hp.1) haw)
  rw [lg_entry_eq]
  generalize (lg_sl vs ++ List.replicate (maxL - (lg_sl vs).length) Slot.unset).toArray = ls at hl ⊢
  have hts := atoms_spec (ws := ws) B.pre
  have hlocks := B.notSynchronized
  refine zy_body (zn := zn) (K := K) (hMM p e s m vs.toArray below meth c _ B.exec B.bytes hml (findClass_of_methodNamed B.named) hts hKn) ⟨fun pc i H locs ls x hd hi hi0 hh hk hal => zy_ret B.exec B.bytes B.returns hlocks rfl hms hrc hd hi hh hk hal, fun pc H locs ls hpc => (by rw [hlf] at hpc; cases hpc)⟩ hdec hc hp hh (by rw [hK1]; exact hl)
