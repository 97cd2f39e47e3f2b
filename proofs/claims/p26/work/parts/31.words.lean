/-! the words of the tables, and what they give to the checker's tables -/
def gT : List Cond := lw_tbl.filter goodWord
theorem gT_in {w : Cond} (h : w ∈ lw_tbl) (hg : goodWord w = true) : w ∈ gT := List.mem_filter.mpr ⟨h, hg⟩
theorem tb_1 {w : Cond} (i : Nat) (h : tables_1_1[i]? = some w) (hg : goodWord w = true) : w ∈ gT := gT_in (List.mem_append_right _ (List.mem_append_left _ (List.mem_of_getElem? h))) hg
theorem tb_2 {w : Cond} (i : Nat) (h : tables_1_2[i]? = some w) (hg : goodWord w = true) : w ∈ gT := gT_in (List.mem_append_right _ (List.mem_append_right _ (List.mem_append_left _ (List.mem_of_getElem? h)))) hg
theorem tb_3 {w : Cond} (i : Nat) (h : tables_1_3[i]? = some w) (hg : goodWord w = true) : w ∈ gT := gT_in (List.mem_append_right _ (List.mem_append_right _ (List.mem_append_right _ (List.mem_append_left _ (List.mem_of_getElem? h))))) hg
theorem tb_4 {w : Cond} (i : Nat) (h : tables_1_4[i]? = some w) (hg : goodWord w = true) : w ∈ gT := gT_in (List.mem_append_right _ (List.mem_append_right _ (List.mem_append_right _ (List.mem_append_right _ (List.mem_append_left _ (List.mem_of_getElem? h)))))) hg
theorem tb_5 {w : Cond} (i : Nat) (h : tables_1_5[i]? = some w) (hg : goodWord w = true) : w ∈ gT := gT_in (List.mem_append_right _ (List.mem_append_right _ (List.mem_append_right _ (List.mem_append_right _ (List.mem_append_right _ (List.mem_append_left _ (List.mem_of_getElem? h))))))) hg
theorem tb_6 {w : Cond} (i : Nat) (h : tables_1_6[i]? = some w) (hg : goodWord w = true) : w ∈ gT := gT_in (List.mem_append_right _ (List.mem_append_right _ (List.mem_append_right _ (List.mem_append_right _ (List.mem_append_right _ (List.mem_append_right _ (List.mem_append_left _ (List.mem_of_getElem? h)))))))) hg
theorem tb_7 {w : Cond} (i : Nat) (h : tables_1_7[i]? = some w) (hg : goodWord w = true) : w ∈ gT := gT_in (List.mem_append_right _ (List.mem_append_right _ (List.mem_append_right _ (List.mem_append_right _ (List.mem_append_right _ (List.mem_append_right _ (List.mem_append_right _ (List.mem_append_left _ (List.mem_of_getElem? h))))))))) hg
theorem tb_8 {w : Cond} (i : Nat) (h : tables_1_8[i]? = some w) (hg : goodWord w = true) : w ∈ gT := gT_in (List.mem_append_right _ (List.mem_append_right _ (List.mem_append_right _ (List.mem_append_right _ (List.mem_append_right _ (List.mem_append_right _ (List.mem_append_right _ (List.mem_append_right _ (List.mem_of_getElem? h))))))))) hg
theorem tb_0 {w : Cond} (i : Nat) (h : (k2_sels lw_privs)[i]? = some w) (hg : goodWord w = true) : w ∈ gT := gT_in (List.mem_append_left _ (List.mem_of_getElem? h)) hg
abbrev gW (y : MethodName) (b : ByteArray) (n : Nat) (r : Option FieldType) : List Cond := Cond.code y b n r :: gT
theorem gT_gi {x : Cond} {y : MethodName} {b : ByteArray} {n : Nat} {r : Option FieldType} (hc : Cond.code y b n r ∈ gT) : GoodIn (x :: gT) (gW y b n r) := by
  intro w hw
  rcases List.mem_cons.mp hw with h | h
  · rw [h]; exact ⟨List.mem_cons_of_mem _ hc, good_of_word (List.mem_filter.mp hc).2⟩
  · exact ⟨List.mem_cons_of_mem _ h, good_of_word (List.mem_filter.mp h).2⟩
/-- the types that a field of a type takes -/
def zt_fd (t : zt_T) (ty : FieldType) : Bool := match t.1, ty with
  | 0, .int => true
  | 0, .boolean => decide (0 ≤ t.2.1) && decide (t.2.2 ≤ 1)
  | 1, .long => true
  | _ + 4, .object _ => true
  | _ + 4, .array _ => true
  | _, _ => false
theorem zt_fd_ok {ro : Nat → Option Nat} {t : zt_T} {ty : FieldType} (h : zt_fd t ty = true) (x : Value) (hx : zt_ok ro x t) : narrow ty x = x ∧ fits ty x = true := by
  obtain ⟨k, lo, hi⟩ := t
  unfold zt_fd at h
  split at h
  · rename_i e
    dsimp only at e
    subst e
    obtain ⟨y, rfl, -, -⟩ := hx
    exact ⟨rfl, rfl⟩
  · rename_i e
    dsimp only at e
    subst e
    obtain ⟨y, rfl, y1, y2⟩ := hx
    simp only [Bool.and_eq_true, decide_eq_true_eq] at h
    dsimp only at y1 y2
    rcases (show y.toInt = 0 ∨ y.toInt = 1 by omega) with g | g
    · have : y = 0 := Int32.toInt_inj.mp g
      rw [this]; exact ⟨rfl, rfl⟩
    · have : y = 1 := Int32.toInt_inj.mp g
      rw [this]; exact ⟨rfl, rfl⟩
  · rename_i e
    dsimp only at e
    subst e
    obtain ⟨y, rfl, -, -⟩ := hx
    exact ⟨rfl, rfl⟩
  · rename_i j nm e
    dsimp only at e
    subst e
    rcases hx with ⟨-, rfl⟩ | ⟨a, rfl, -⟩
    · exact ⟨rfl, rfl⟩
    · exact ⟨rfl, rfl⟩
  · rename_i j nm e
    dsimp only at e
    subst e
    rcases hx with ⟨-, rfl⟩ | ⟨a, rfl, -⟩
    · exact ⟨rfl, rfl⟩
    · exact ⟨rfl, rfl⟩
  · cases h
section ZW
variable {s : State} {m : MethodId} {args : Array Value} {D : va_G} {ro : Nat → Option Nat} {cl : List vw_C} {tys : List (ClassId × FieldType)} {own C : String} {T : u_T} {N r k idx : Nat}
theorem zf_get0 (hts : ∀ w ∈ gT, w.before args s = true) (hown : s.vm.findClass own = some m.cls) (hK : va_K D cl tys s) (hc : cl[r]? = some (C, T, N)) (hk : k < N) (hl : Cond.fieldLink own idx (T k).1 (T k).2.1 (T k).2.2.1 ∈ gT) (hin : ∀ w ∈ u_ws C T N, w ∈ gT) : zk_get s m args D idx r k := by
  obtain ⟨hS, hfc, kC, hkC, hkind⟩ := hK.1 r _ hc
  obtain ⟨cf, kf, fi, f, hi, hsl⟩ := hS k hk
  exact ⟨own, _, _, _, f, ⟨hown, hts _ hl, ⟨cf, kf, fi, hi⟩, (u_facts hfc hkC (u_lays hts hin hk) hi).1⟩, hsl⟩
theorem zf_put0 {ty : FieldType} {t : zt_T} (hts : ∀ w ∈ gT, w.before args s = true) (hown : s.vm.findClass own = some m.cls) (hK : va_K D cl tys s) (hc : cl[r]? = some (C, T, N)) (hk : k < N) (hl : Cond.fieldLink own idx (T k).1 (T k).2.1 (T k).2.2.1 ∈ gT) (hin : ∀ w ∈ u_ws C T N, w ∈ gT) (hfin : (T k).2.2.2 = false) (hd : parseFieldDescriptor (T k).2.2.1 = some ty) (ht : zt_fd t ty = true) : zk_put s m args D ro idx r k t := by
  obtain ⟨hS, hfc, kC, hkC, hkind⟩ := hK.1 r _ hc
  obtain ⟨cf, kf, fi, f, hi, hsl⟩ := hS k hk
  have hlay := hts _ (hin _ (u_in_lay hk))
  unfold u_lay at hlay
  rw [if_neg (by rw [hfin]; decide)] at hlay
  exact ⟨own, _, _, _, f, ⟨hown, hts _ hl, ⟨cf, kf, fi, hi⟩, (u_facts hfc hkC (u_lays hts hin hk) hi).1⟩, hsl, fun x hx => u_store hfc hkC hkind hlay hi hd (zt_fd_ok ht x hx).1 (zt_fd_ok ht x hx).2⟩
end ZW
/-- a field's entry stands on words -/
def zf_w (cl : List vw_C) (RT : List zr_R) (own : String) (x : Nat × Nat × Nat) : Prop := ∃ (C : String) (T : u_T) (N : Nat) (ty : FieldType) (n : Nat) (fs : List zt_T) (t : zt_T), cl[x.2.1]? = some (C, T, N) ∧ x.2.2 < N ∧ Cond.fieldLink own x.1 (T x.2.2).1 (T x.2.2).2.1 (T x.2.2).2.2.1 ∈ gT ∧ (∀ w ∈ u_ws C T N, w ∈ gT) ∧ parseFieldDescriptor (T x.2.2).2.2.1 = some ty ∧ RT[x.2.1]? = some (0, x.2.1, n, fs) ∧ fs[x.2.2]? = some t ∧ zt_fd t ty = true
def zf_nf (cl : List vw_C) (x : Nat × Nat) : Bool := match cl[x.1]? with
  | some q => !(q.2.1 x.2).2.2.2
  | none => true
theorem zf_clause {s : State} {m : MethodId} {args : Array Value} {D : va_G} {ro : Nat → Option Nat} {cl : List vw_C} {tys : List (ClassId × FieldType)} {own : String} {RT : List zr_R} {gf : List (Nat × Nat × Nat)} {ms : List (Nat × Nat)} (hts : ∀ w ∈ gT, w.before args s = true) (hown : s.vm.findClass own = some m.cls) (hK : va_K D cl tys s) (hg : ∀ x ∈ gf, zf_w cl RT own x) (hm : ms.all (zf_nf cl) = true) :
    ∀ (idx r k ci n : Nat) (fs : List zt_T) (t : zt_T), (idx, r, k) ∈ gf → RT[r]? = some (0, ci, n, fs) → fs[k]? = some t → zk_get s m args D idx ci k ∧ ((r, k) ∈ ms → zk_put s m args D ro idx ci k t) := by
  intro idx r k ci n fs t hx hr ht
  obtain ⟨C, T, N, ty, n', fs', t', h1, h2, h3, h4, h5, h6, h7, h8⟩ := hg _ hx
  dsimp only at h1 h2 h3 h4 h5 h6 h7
  cases hr.symm.trans h6
  cases ht.symm.trans h7
  refine ⟨zf_get0 hts hown hK h1 h2 h3 h4, fun hms => zf_put0 hts hown hK h1 h2 h3 h4 ?_ h5 h8⟩
  have h9 := List.all_eq_true.mp hm _ hms
  unfold zf_nf at h9
  dsimp only at h9
  rw [h1] at h9
  simpa using h9
section ZX
variable {p : Program} {l : Launch} {e : Env} {R : Room} {s : State} {m : MethodId} {args : Array Value} {below : List Frame} {meth : Method} {c : Code} {cells slots : Nat} {Q : State → Prop} {cc bytes : ByteArray}
variable {D : va_G} {cA : Nat → ClassId} {RT : List zr_R} {ro : Nat → Option Nat} {sz : Nat} {H0 : Heap} {Kn : State → Prop} {k : zc_C} {y : MethodName} {rm : Room} {nL maxL key idx pc : Nat} {ret : Option FieldType} {own C : String} {x0 : Cond}
theorem zr_S (hx : p.tables.exec = Jvm.exec) (hb : c.code = cc) (hml : c.maxLocals = nL) (hown : s.vm.findClass own = some m.cls) (hts : ∀ w ∈ x0 :: gT, w.before args s = true) (hKn : Kn s) (hKb : zy_Kb Kn) (hM : zy_M l D cA RT ro sz H0 Kn y (gW y bytes maxL ret) rm k) (h0 : rm.cells = 0 ∧ rm.slots = 0) (hR : rm.frames + 1 ≤ R.frames ∧ 8 + (maxL + 11) + rm.locals ≤ R.locals) (hf : cells ≤ R.cells ∧ slots ≤ R.slots)
    (hc : Cond.code y bytes maxL ret ∈ gT) (hi : Cond.initialized y.cls ∈ gT) (hl : Cond.methodLink own idx y ∈ gT) (hst : Cond.static y ∈ gT) (hd : y.cls ≠ "java/lang/invoke/MethodHandle" ∧ y.cls ≠ "java/lang/invoke/VarHandle" ∧ (parseMethodDescriptor y.desc).map (fun d => d.parameters.length) = some k.1.length) (hk : key = 4 * idx) :
    ∀ (pc j : Nat) (i : Instr), (i = .invokestatic j ∧ key = 4 * j) ∨ (i = .invokevirtual j ∧ key = 4 * j + 1) ∨ (i = .invokespecial j ∧ key = 4 * j + 2) → decode cc pc = .ok (i, 3) → zc_row D cA RT ro sz H0 nL (fun pc H locs ls st => W p l e R s m args below meth c H locs cells slots Q (F0 m pc ls st)) pc (pc + 3) k := by
  intro pc j i hij hdec
  rcases hij with ⟨rfl, h⟩ | ⟨rfl, h⟩ | ⟨rfl, h⟩
  · have : j = idx := by omega
    subst this
    have h2 : ∀ w ∈ gT, w.before args s = true := fun w hw => hts w (List.mem_cons_of_mem _ hw)
    exact zy_rowS ⟨hx, hb, hml, hown, hts⟩ hM ⟨callB_of k.1.length hts (gT_gi hc) rfl h0.1 h0.2 (h2 _ hi) (h2 _ hl) hd hR, h2 _ hst⟩ hKn hKb hf hdec
  · omega
  · omega
theorem zr_V {r ci n0 : Nat} {fs : List zt_T} {lo hi0 : Int} {ts : List zt_T} (hx : p.tables.exec = Jvm.exec) (hb : c.code = cc) (hml : c.maxLocals = nL) (hown : s.vm.findClass own = some m.cls) (hts : ∀ w ∈ x0 :: gT, w.before args s = true) (hKn : Kn s) (hKb : zy_Kb Kn) (hM : zy_M l D cA RT ro sz H0 Kn y (gW y bytes maxL ret) rm k) (h0 : rm.cells = 0 ∧ rm.slots = 0) (hR : rm.frames + 1 ≤ R.frames ∧ 8 + (maxL + 11) + rm.locals ≤ R.locals) (hf : cells ≤ R.cells ∧ slots ≤ R.slots)
    (hc : Cond.code y bytes maxL ret ∈ gT) (hi : Cond.initialized y.cls ∈ gT) (hl : Cond.methodLink own idx y ∈ gT) (hin : Cond.instanceMethod y ∈ gT) (hse : Cond.selects y.cls y y ∈ gT) (hd : y.cls ≠ "java/lang/invoke/MethodHandle" ∧ y.cls ≠ "java/lang/invoke/VarHandle" ∧ (parseMethodDescriptor y.desc).map (fun d => d.parameters.length) = some ts.length) (hka : k.1 = (4 + 2 * r, lo, hi0) :: ts) (hr : RT[r]? = some (0, ci, n0, fs)) (hC : s.vm.findClass y.cls = some (D.1 ci)) (hk : key = 4 * idx + 1) :
    ∀ (pc j : Nat) (i : Instr), (i = .invokestatic j ∧ key = 4 * j) ∨ (i = .invokevirtual j ∧ key = 4 * j + 1) ∨ (i = .invokespecial j ∧ key = 4 * j + 2) → decode cc pc = .ok (i, 3) → zc_row D cA RT ro sz H0 nL (fun pc H locs ls st => W p l e R s m args below meth c H locs cells slots Q (F0 m pc ls st)) pc (pc + 3) k := by
  intro pc j i hij hdec
  rcases hij with ⟨rfl, h⟩ | ⟨rfl, h⟩ | ⟨rfl, h⟩
  · omega
  · have : j = idx := by omega
    subst this
    have h2 : ∀ w ∈ gT, w.before args s = true := fun w hw => hts w (List.mem_cons_of_mem _ hw)
    exact zy_rowV ⟨hx, hb, hml, hown, hts⟩ hM ⟨callB_of ts.length hts (gT_gi hc) rfl h0.1 h0.2 (h2 _ hi) (h2 _ hl) hd hR, h2 _ hin, h2 _ hse⟩ hka hr hC hKn hKb hf hdec
  · omega
end ZX
