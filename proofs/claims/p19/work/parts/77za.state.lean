/-! the texts in the shared state: TEXT is T, OUT is O -/
section TZGW
variable {p : Program} {l : Launch} {e : Env} {R : Room} {s : State} {m : MethodId} {args : Array Value} {below : List Frame} {meth : Method} {c : Code} {H : Heap} {locs : List Loc} {cells slots : Nat} {Q : State → Prop} {cc : ByteArray} {pc : Nat} {ls : Array Slot} {st : List Value}
variable {D : va_G} {cA : Nat → ClassId} {ro : Nat → Option Nat} {sz : Nat} {H0 : Heap}
theorem zx_leafGW {ik is ic mc ms : Nat} {cls text : String} {Qc : Array Value → State → Outcome → State → Prop} {XC : String → State → State → Prop} (hx : p.tables.exec = Jvm.exec) (hb : c.code = cc) (hl : l.stackTraces = false) (hown : s.vm.findClass RX11 = some m.cls) (hts : ∀ w ∈ gT, w.before args s = true) (hK : zKx D cA ro sz H0 s) (hh0 : zh_ok D cA RTg ro sz H0 s.heap []) (hh : zh_ok D cA RTg ro sz H0 H locs) (hsize : ls.size = c.maxLocals) (hout : ∀ x ∈ c.exceptionTable.toList, False) (hlocks : meth.locks = false) (hR : 6 ≤ R.frames ∧ 82 ≤ R.locals ∧ cells + 1 ≤ R.cells ∧ slots + 6 ≤ R.slots)
    (hcl : Cond.classLink RX11 ik cls ∈ gT) (hini : Cond.initialized cls ∈ gT) (hstr : (is, text) ∈ gS) (hat : ∀ w ∈ gAt ic cls, w ∈ gT ∨ w ∈ gNg) (hfit : Bundle.fit cls = true) (hmc : cells + 1 ≤ mc) (hms : slots + 6 ≤ ms) (hX : ∀ t : State, H.size ≤ t.heap.size → (∀ q : Nat, q < H.size → t.heap[q]? = H[q]?) → XC cls s t)
    (d0 : decode cc pc = .ok (.new ik, 3)) (d3 : decode cc (pc + 3) = .ok (.dup, 1)) (d4 : decode cc (pc + 4) = .ok (.ldc_w is, 3)) (d6 : decode cc (pc + 7) = .ok (.invokespecial ic, 3)) (d9 : decode cc (pc + 10) = .ok (.athrow, 1)) :
    W p l e R s m args below meth c H locs cells slots (vx_MQ below Qc XC args s mc ms (zy_fr sz)) (F0 m pc ls []) := by
  intro T hT X
  have hsz : s.heap.size ≤ H.size := by
    have h1 : s.heap.size ≤ T.heap.size := X.same.2.1
    rw [hT] at h1; exact h1
  obtain ⟨sa, hsa⟩ := hK.2.2.2.1 _ hstr
  have hU : ∀ {n d : String}, vx_Zq Bundle.tN n d (fun q => sz ≤ q) s H0 → vx_Zq Bundle.tN n d (fun q => sz ≤ q) s s.heap := fun h => h.kept (fun q _ h2 => hh0.2.1 q (Nat.not_le.mp h2))
  have hS : va_S (fun q => sz ≤ q) s.heap H locs := ⟨hsz, fun q _ h2 => by rw [hh.2.1 q (Nat.not_le.mp h2), hh0.2.1 q (Nat.not_le.mp h2)], hh.2.2.1⟩
  exact vx_throwSW (names := ["java/lang/RuntimeException", "java/lang/Exception"]) hx hb hl hown hfit (by decide) (hts _ hcl) (hts _ hini) hsa (fun w hw => (hat w hw).elim (hts w) (hK.ng w))
    (fun w hw => by
      rcases List.mem_cons.mp hw with g | g
      · rw [g]; exact gT_ot hcl
      · rcases List.mem_cons.mp g with g | g
        · rw [g]; exact gT_ot hini
        · exact (hat w g).elim gT_ot (gNg_ot w)) (hU hK.2.1) (hU hK.2.2.1) hS hsize d0 d3 d4 d6 d9 (fun x hx => (hout x hx).elim) (by show 2 + 3 < _; omega) (by show 0 + (13 * (2 + 1) + 43) ≤ _; omega) (by omega) (by omega) hlocks
    (fun t _ hz hq => hX t hz hq) hh.2.2.1 hmc hms T hT X
end TZGW
def jTx (D : va_G) (cA : Nat → ClassId) (ro : Nat → Option Nat) (H : Heap) (tx : Nat) (T : List Int) : Prop := ∃ (tb : Nat) (n : Int32) (z : Nat → Value), zh_f D H tx 0 0 = .ref tb ∧ ro tb = some 12 ∧ zh_f D H tx 0 1 = .int n ∧ n.toInt = (T.length : Int) ∧ H[tb]? = some (arrV (cA 2) 120 z) ∧ jY T z
def jRT (D : va_G) (cA : Nat → ClassId) (ro : Nat → Option Nat) (H : Heap) (a : Nat) (T : List Int) : Prop := ∃ (tb : Nat) (n : Int32) (z : Nat → Value), zh_f D H a 11 12 = .ref tb ∧ ro tb = some 30 ∧ zh_f D H a 11 13 = .int n ∧ n.toInt = (T.length : Int) ∧ H[tb]? = some (arrV (cA 2) 120 z) ∧ jY T z
def jKb (T O : List Int) : Prop := T.length ≤ 120 ∧ O.length ≤ 120 ∧ ∀ c ∈ O, 0 ≤ c ∧ c ≤ 127
def jCK (D : va_G) (cA : Nat → ClassId) (ro : Nat → Option Nat) (H : Heap) (x : Nat) (T O : List Int) : Prop := (∃ tx : Nat, zh_f D H x 10 4 = .ref tx ∧ ro tx = some 0 ∧ jTx D cA ro H tx T) ∧ (∃ wr : Nat, zh_f D H x 10 5 = .ref wr ∧ ro wr = some 8 ∧ jW D cA ro H wr O) ∧ jKb T O
def jRK (D : va_G) (cA : Nat → ClassId) (ro : Nat → Option Nat) (H : Heap) (a : Nat) (T O : List Int) : Prop := jRT D cA ro H a T ∧ jRO D cA ro H a O ∧ jKb T O
def kFc : List (Nat × Nat) := [(10, 4), (10, 5), (0, 0), (0, 1), (12, 0), (8, 0), (8, 1), (16, 0)]
def kFr : List (Nat × Nat) := [(11, 12), (11, 13), (11, 14), (11, 15), (30, 0), (31, 0)]
def kMc : List (Nat × Nat) := [(0, 1), (12, 0), (8, 1), (16, 0), (42, 0)]
def kMr : List (Nat × Nat) := [(11, 0), (11, 13), (11, 15), (11, 18), (11, 19), (11, 20), (11, 21), (11, 22), (30, 0), (31, 0)]
section KK
variable {D : va_G} {cA : Nat → ClassId} {ro ro' : Nat → Option Nat} {H H' : Heap} {ms : List (Nat × Nat)} {T O : List Int} {x a tx wr : Nat}
theorem jTx.kept (hl : ro tx = some 0) (h : zc_kept D RTg ro ms H H') (m1 : (0, 0) ∉ ms) (m2 : (0, 1) ∉ ms) (m3 : (12, 0) ∉ ms) (j : jTx D cA ro H tx T) : jTx D cA ro H' tx T := by
  obtain ⟨la, n, z, e1, e2, e3, e4, e5, e6⟩ := j
  exact ⟨la, n, z, (h.1 tx 0 0 0 0 fsX0 hl rfl (by decide) m1).trans e1, e2, (h.1 tx 0 1 0 0 fsX0 hl rfl (by decide) m2).trans e3, e4, (h.2 la 12 0 2 120 _ e2 rfl m3).trans e5, e6⟩
theorem jW.kept (hl : ro wr = some 8) (h : zc_kept D RTg ro ms H H') (m1 : (8, 0) ∉ ms) (m2 : (8, 1) ∉ ms) (m3 : (16, 0) ∉ ms) (j : jW D cA ro H wr O) : jW D cA ro H' wr O := by
  obtain ⟨la, n, z, e1, e2, e3, e4, e5, e6⟩ := j
  exact ⟨la, n, z, (h.1 wr 8 0 8 0 fsX9 hl rfl (by decide) m1).trans e1, e2, (h.1 wr 8 1 8 0 fsX9 hl rfl (by decide) m2).trans e3, e4, (h.2 la 16 0 2 120 _ e2 rfl m3).trans e5, e6⟩
theorem jRT.kept (ha : ro a = some 11) (h : zc_kept D RTg ro ms H H') (m1 : (11, 12) ∉ ms) (m2 : (11, 13) ∉ ms) (m3 : (30, 0) ∉ ms) (j : jRT D cA ro H a T) : jRT D cA ro H' a T := by
  obtain ⟨la, n, z, e1, e2, e3, e4, e5, e6⟩ := j
  exact ⟨la, n, z, (h.1 a 11 12 11 0 fsX12 ha rfl (by decide) m1).trans e1, e2, (h.1 a 11 13 11 0 fsX12 ha rfl (by decide) m2).trans e3, e4, (h.2 la 30 0 2 120 _ e2 rfl m3).trans e5, e6⟩
theorem jRO.kept (ha : ro a = some 11) (h : zc_kept D RTg ro ms H H') (m1 : (11, 14) ∉ ms) (m2 : (11, 15) ∉ ms) (m3 : (31, 0) ∉ ms) (j : jRO D cA ro H a O) : jRO D cA ro H' a O := by
  obtain ⟨la, n, z, e1, e2, e3, e4, e5, e6⟩ := j
  exact ⟨la, n, z, (h.1 a 11 14 11 0 fsX12 ha rfl (by decide) m1).trans e1, e2, (h.1 a 11 15 11 0 fsX12 ha rfl (by decide) m2).trans e3, e4, (h.2 la 31 0 2 160 _ e2 rfl m3).trans e5, e6⟩
theorem jCK.kept (hx : ro x = some 10) (h : zc_kept D RTg ro ms H H') (hm : ∀ y ∈ kFc, y ∉ ms) (j : jCK D cA ro H x T O) : jCK D cA ro H' x T O := by
  obtain ⟨⟨tx, a1, a2, a3⟩, ⟨wr, b1, b2, b3⟩, c⟩ := j
  exact ⟨⟨tx, (h.1 x 10 4 10 0 fsX11 hx rfl (by decide) (hm _ (by decide))).trans a1, a2, a3.kept a2 h (hm _ (by decide)) (hm _ (by decide)) (hm _ (by decide))⟩, ⟨wr, (h.1 x 10 5 10 0 fsX11 hx rfl (by decide) (hm _ (by decide))).trans b1, b2, b3.kept b2 h (hm _ (by decide)) (hm _ (by decide)) (hm _ (by decide))⟩, c⟩
theorem jRK.kept (ha : ro a = some 11) (h : zc_kept D RTg ro ms H H') (hm : ∀ y ∈ kFr, y ∉ ms) (j : jRK D cA ro H a T O) : jRK D cA ro H' a T O := ⟨j.1.kept ha h (hm _ (by decide)) (hm _ (by decide)) (hm _ (by decide)), j.2.1.kept ha h (hm _ (by decide)) (hm _ (by decide)) (hm _ (by decide)), j.2.2⟩
theorem jCK.ext (he : ∀ q r, ro q = some r → ro' q = some r) (j : jCK D cA ro H x T O) : jCK D cA ro' H x T O := by
  obtain ⟨⟨tx, a1, a2, la, n, z, a3, a4, a5⟩, ⟨wr, b1, b2, lb, n', z', b3, b4, b5⟩, c⟩ := j
  exact ⟨⟨tx, a1, he _ _ a2, la, n, z, a3, he _ _ a4, a5⟩, ⟨wr, b1, he _ _ b2, lb, n', z', b3, he _ _ b4, b5⟩, c⟩
theorem jRK.ext (he : ∀ q r, ro q = some r → ro' q = some r) (j : jRK D cA ro H a T O) : jRK D cA ro' H a T O := by
  obtain ⟨⟨la, n, z, a3, a4, a5⟩, ⟨lb, n', z', b3, b4, b5⟩, c⟩ := j
  exact ⟨⟨la, n, z, a3, he _ _ a4, a5⟩, ⟨lb, n', z', b3, he _ _ b4, b5⟩, c⟩
end KK
/-- what a call of the class gives, throws; its wrapper; the reference -/
def zk_Q (D : va_G) (cA : Nat → ClassId) (ro : Nat → Option Nat) (sz : Nat) (H0 : Heap) (x : Nat) (V : Int → Value → Prop) (SP : Int → Int → List Int → List Int → Prop) : Array Value → State → Outcome → State → Prop := fun _ st oc t => ∃ (v : Value) (r : Int) (T' O' : List Int), oc = .returned (some v) ∧ V r v ∧ zh_ok D cA RTg ro sz H0 t.heap [] ∧ zc_kept D RTg ro kMc st.heap t.heap ∧ jCK D cA ro t.heap x T' O' ∧ SP 0 r T' O'
def zk_X (D : va_G) (cA : Nat → ClassId) (ro : Nat → Option Nat) (sz : Nat) (H0 : Heap) (T O : List Int) (SP : Int → Int → List Int → List Int → Prop) : String → State → State → Prop := fun E st t => zh_ok D cA RTg ro sz H0 t.heap [] ∧ zc_kept D RTg ro [] st.heap t.heap ∧ ((E = eI ∧ ∃ r, SP 1 r T O) ∨ (E = eU ∧ ∃ r, SP 2 r T O))
def zk_XO (D : va_G) (cA : Nat → ClassId) (ro : Nat → Option Nat) (sz : Nat) (H0 : Heap) (T O : List Int) (SP : Int → Int → List Int → List Int → Prop) : String → State → State → Prop := fun E st t => zh_ok D cA RTg ro sz H0 t.heap [] ∧ zc_kept D RTg ro [] st.heap t.heap ∧ E = eX ∧ ∃ r, SP 1 r T O
def zk_QL (D : va_G) (cA : Nat → ClassId) (ro : Nat → Option Nat) (sz : Nat) (H0 : Heap) (x o : Nat) (SP : Int → Int → List Int → List Int → Prop) : Array Value → State → Outcome → State → Prop := fun _ st oc t => ∃ (k : Int32) (T' O' : List Int) (z : Nat → Value) (r : Int64), oc = .returned (some (.int k)) ∧ zh_ok D cA RTg ro sz H0 t.heap [] ∧ zc_kept D RTg ro kMc st.heap t.heap ∧ jCK D cA ro t.heap x T' O' ∧ t.heap[o]? = some (arrV (cA 1) 1 z) ∧ z 0 = .long r ∧ ((k.toInt = 0 ∧ SP 0 r.toInt T' O') ∨ (k.toInt ≠ 0 ∧ ∃ r', SP k.toInt r' T' O'))
def zk_QR (D : va_G) (cA : Nat → ClassId) (ro : Nat → Option Nat) (sz : Nat) (H0 : Heap) (a : Nat) (V : Int → Value → Prop) (SP : Int → Int → List Int → List Int → Prop) : Array Value → State → Outcome → State → Prop := fun _ st oc t => ∃ (v : Value) (r : Int) (w : Int32) (T' O' : List Int), oc = .returned (some v) ∧ V r v ∧ zh_ok D cA RTg ro sz H0 t.heap [] ∧ zc_kept D RTg ro kMr st.heap t.heap ∧ zh_f D t.heap a 11 0 = .int w ∧ jRK D cA ro t.heap a T' O' ∧ SP w.toInt r T' O'
def kpD (SP : Int → Int → List Int → List Int → Prop) : Prop := ∀ k r T O k' r' T' O', SP k r T O → SP k' r' T' O' → k = k' ∧ T = T' ∧ O = O' ∧ (k = 0 → r = r')
/-- bytes that are written are ASCII -/
def asc (B : List Int) : Prop := ∀ c ∈ B, 0 ≤ c ∧ c ≤ 127
theorem asc_nil : asc [] := fun c h => by cases h
theorem asc_app {A B : List Int} (h : asc A) (g : asc B) : asc (A ++ B) := fun c hc => (List.mem_append.mp hc).elim (h c) (g c)
theorem asc_one {c : Int} (h1 : 0 ≤ c) (h2 : c ≤ 127) : asc [c] := fun d h => by rw [List.mem_singleton.mp h]; exact ⟨h1, h2⟩
theorem asc_dgL (n : Nat) (v : Int) : asc (dgL n v) := by
  induction n generalizing v with
  | zero => exact asc_nil
  | succ n ih => exact asc_app (ih _) (asc_one (by omega) (by omega))
theorem asc_dsL (b : Int) : asc (dsL b) := by
  unfold dsL
  split
  · exact asc_nil
  · exact asc_one (by omega) (by omega)
theorem asc_yrL (y : Int) : asc (yrL y) := by
  unfold yrL
  split
  · exact asc_dgL _ _
  · exact asc_app (asc_one (by split <;> omega) (by split <;> omega)) (asc_dgL _ _)
/-- writeDate -/
def dshI (st yy : Int) : Int := if st % 2 = 0 ∨ yy < 0 ∨ 9999 < yy then 1 else 0
def dateL (n st y m d w : Int) : List Int := if 4 ≤ st then yrL w ++ wkL ((thI n - ysI w) / 7 + 1) ((n + 3) % 7 + 1) (dshI st w) else if 2 ≤ st then yrL y ++ orL (n - ysI y + 1) (dshI st y) else yrL y ++ mdL m d (dshI st y)
theorem dateL_ok (n st y m d w : Int) : asc (dateL n st y m d w) ∧ (dateL n st y m d w).length ≤ 20 := by
  have l1 := yrL_len w
  have l2 := yrL_len y
  have l3 := dsL_len (dshI st w)
  have l4 := dsL_len (dshI st y)
  unfold dateL wkL orL mdL
  split
  · exact ⟨asc_app (asc_yrL _) (asc_app (asc_app (asc_app (asc_app (asc_dsL _) (asc_one (by decide) (by decide))) (asc_dgL _ _)) (asc_dsL _)) (asc_dgL _ _)), by simp only [List.length_append, dgL_len, List.length_cons, List.length_nil]; omega⟩
  · split
    · exact ⟨asc_app (asc_yrL _) (asc_app (asc_dsL _) (asc_dgL _ _)), by simp only [List.length_append, dgL_len]; omega⟩
    · exact ⟨asc_app (asc_yrL _) (asc_app (asc_app (asc_app (asc_dsL _) (asc_dgL _ _)) (asc_dsL _)) (asc_dgL _ _)), by simp only [List.length_append, dgL_len]; omega⟩
def dwV (n st : Int) : Prop := dOK n ∧ 0 ≤ st ∧ st ≤ 5
def spW (n st : Int) (T O : List Int) (k r : Int) (T' O' : List Int) : Prop := T' = T ∧ ((k = 1 ∧ O' = O ∧ ¬ dwV n st) ∨ (k = 0 ∧ dwV n st ∧ (∃ y m d w, cvP n y m d ∧ isY (thI n) w ∧ O' = dateL n st y m d w) ∧ r = (O'.length : Int)))
theorem spW_det (n st : Int) (T O : List Int) : kpD (spW n st T O) := by
  intro k r T1 O1 k' r' T2 O2 h h'
  obtain ⟨h1, h2⟩ := h
  obtain ⟨g1, g2⟩ := h'
  rcases h2 with ⟨a1, a2, a3⟩ | ⟨a1, a2, ⟨y, m, d, w, a3, a4, a5⟩, a6⟩ <;> rcases g2 with ⟨b1, b2, b3⟩ | ⟨b1, b2, ⟨y', m', d', w', b3, b4, b5⟩, b6⟩
  · exact ⟨by omega, by rw [h1, g1], by rw [a2, b2], by omega⟩
  · exact absurd b2 a3
  · exact absurd a2 b3
  · obtain ⟨rfl, rfl, rfl⟩ := cvP_one a3 b3
    cases isY_one a4 b4
    rw [← a5] at b5
    exact ⟨by omega, by rw [h1, g1], b5.symm, fun _ => by rw [a6, b6, b5]⟩
theorem spW_no2 {n st : Int} {T O : List Int} {r : Int} {T' O' : List Int} (h : spW n st T O 2 r T' O') : False := by
  obtain ⟨-, ⟨h, -⟩ | ⟨h, -⟩⟩ := h <;> omega
theorem wy_in {n w : Int} (h : dOK n) (hw : isY (thI n) w) : -999999 ≤ w ∧ w ≤ 999999 := isY_in hw (by unfold dOK at h; unfold thI; omega) (by unfold dOK at h; unfold thI; omega)
