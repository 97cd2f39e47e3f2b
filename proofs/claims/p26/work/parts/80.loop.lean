section LWN
variable {p : Program} {l : Launch} {e : Env} {R : Room} {s : State} {m : MethodId} {args : Array Value} {below : List Frame} {meth : Method} {c : Code} {H : Heap} {locs : List Loc} {cells slots : Nat} {Q : State → Prop} {cc : ByteArray} {pc : Nat} {ls : Array Slot} {st : List Value}
variable {D : va_G} {cA : Nat → ClassId} {ro : Nat → Option Nat} {sz : Nat} {H0 : Heap}
/-- 'new T[n]', for n that is known -/
theorem tz_newa {atype : ArrayType} {n : Int32} {N ti r : Nat} {t : zt_T} (hx : p.tables.exec = Jvm.exec) (hb : c.code = cc) (hh : zh_ok D cA RTg ro sz H0 H locs) (harr : (Cond.arrayClass (newarray.typeOf atype)).before args s = true) (hcA : s.vm.findClass ("[" ++ (newarray.typeOf atype).toString) = some (cA ti)) (hr : RTg[r]? = some (1, ti, N, [t])) (hdv : ∀ ro, zt_ok ro (defaultValue (newarray.typeOf atype)) t) (hn : n.toInt = (N : Int)) (hby : N * componentBytes (newarray.typeOf atype) ≤ 536870912) (hc : cells + 1 ≤ R.cells) (hs : slots + N ≤ R.slots) (hd : decode cc pc = .ok (.newarray atype, 2))
    (kk : ∀ (b : Nat) (ro' : Nat → Option Nat) (H' : Heap), zh_ok D cA RTg ro' sz H0 H' locs → ro' b = some r → (∀ q r, ro q = some r → ro' q = some r) → (∀ q : Nat, q < H.size → H'[q]? = H[q]?) → W p l e R s m args below meth c H' locs (cells + 1) (slots + N) Q (F0 m (pc + 2) ls (.ref b :: st))) : W p l e R s m args below meth c H locs cells slots Q (F0 m pc ls (.int n :: st)) := by
  refine va_newaK hx hb harr (g := F0 m pc ls (.int n :: st)) rfl hd rfl (fun g => ?_) (N := N) (by show n.toInt.toNat = N; omega) hby hc hs (h := H.size) rfl (fun H' cA' e1 e2 e3 _ e5 => ?_)
  · have g := Int32.lt_iff_toInt_lt.mp g
    rw [hn, show (0 : Int32).toInt = 0 by decide] at g
    omega
  · cases hcA.symm.trans e5
    have h1 : zh_ok D cA RTg ro sz H0 H' locs := zh_same hh (by omega) (fun q g _ => e3 q g) hh.2.2.1
    refine kk H.size (zo_up ro H.size r) H' (zh_add h1 (zo_none hh) hh.1 hr ⟨_, e1, fun t' ht' j hj => ?_⟩) zo_up_at (zo_up_ext (zo_none hh)) e3
    cases ht'
    exact hdv _
end LWN
/-- what is new is no place that was -/
theorem lw_new {s t : State} {locs : List Loc} {k n : Nat} (h : s.sameButNew t locs k n) (hl : ∀ q ∈ locs, s.heap.size ≤ q.base) : s.sameButNew t [] k n := by
  obtain ⟨h1, h2, h3, h4, h5, h6⟩ := h
  refine ⟨h1, h2, h3, h4, h5, fun a c ha => ?_⟩
  obtain ⟨c', g1, g2, g3, g4⟩ := h6 a c ha
  refine ⟨c', g1, g2, g3, fun i _ => g4 i (fun hm => ?_)⟩
  have h7 := hl _ hm
  have h8 := (Array.getElem?_eq_some_iff.mp ha).1
  have h9 : s.heap.size ≤ a := h7
  omega
def lw_Qr (_ : Array Value) (s : State) (o : Outcome) (t : State) : Prop := o = .returned (some (.int 1)) ∧ Framed s o t [] 601024 7293034
def lw_Zr (below : List Frame) (a : Array Value) (s : State) : State → Prop := fun t => ∃ o, t.status = .running ∧ Ended t below o ∧ lw_Qr a s o t
theorem lw_retG {p : Program} {l : Launch} {e : Env} {s : State} {m : MethodId} {below : List Frame} {meth : Method} {c : Code} {b : Nat} (hx : p.tables.exec = Jvm.exec) (hb : c.code = code) (hr : meth.sig.returnType = ret) (hlocks : meth.locks = false) {pc : Nat} {H : Heap} {locs : List Loc} {ls : Array Slot} {v : Int32} (hv : v = 1) (hlo : ∀ q ∈ locs, s.heap.size ≤ q.base) (hdg : decode code pc = .ok (.ireturn, 1)) : W p l e room_1 s m #[Value.ref b] below meth c H locs 601024 7293034 (lw_Zr below #[Value.ref b] s) (F0 m pc ls [.int v]) := by
  subst hv
  intro T hT X
  obtain ⟨fs, hret, hrun, hended, hW, hframe⟩ := X.leave (v := some (.int 1)) (hlocks := hlocks) (fun h => by rw [hr] at h; cases h)
  have hmeth' : T.vm.method? m = some meth := X.method'
  refine ⟨T.setFrames fs, ?_, .returned (some (.int 1)), hrun, hended, rfl, ⟨_, rfl⟩, hW, lw_new hframe hlo⟩
  jvm_step X.here [X.here.top, hx, hb, hdg, hmeth', hr, ret, narrow_b1]
  (try refine ⟨rfl, ?_⟩); (try refine ⟨rfl, ?_⟩)
  first | (intro acts; rw [hret _ acts rfl rfl rfl]) | rw [hret _ _ rfl rfl rfl]
  exact Steps.refl _
def tL_law_h : List (Nat × Instr × Nat) := [(0, .new 8, 3), (3, .dup, 1), (4, .invokespecial 98, 3), (7, .astore_n 1, 1), (8, .new 99, 3), (11, .dup, 1), (12, .invokespecial 101, 3), (15, .astore_n 2, 1), (16, .iconst 1, 1), (17, .newarray .long, 2), (19, .astore_n 3, 1), (20, .iconst 0, 1), (21, .istore 4, 2), (23, .iload 4, 2), (25, .aload_n 0, 1), (26, .arraylength, 1), (27, .bipush 8, 2), (29, .isub, 1), (30, .if_icmp .gt 1771, 3), (33, .aload_n 0, 1), (34, .iload 4, 2), (36, .iaload, 1), (37, .bipush 31, 2), (39, .iand, 1), (40, .tableswitch 1755 0 24 #[116, 168, 240, 292, 364, 392, 452, 524, 596, 624, 708, 736, 808, 904, 976, 1048, 1061, 1074, 1102, 1142, 1214, 1310, 1474, 1502, 1598], 116)]
set_option maxRecDepth 100000 in
theorem eL_law_h : ∀ x ∈ tL_law_h, decode cL_law x.1 = .ok x.2 := by decide +kernel
def tL_law_t : List (Nat × Instr × Nat) := [(1795, .iinc 4 8, 3), (1798, .goto (-1775), 3), (1801, .iconst 1, 1), (1802, .ireturn, 1)]
set_option maxRecDepth 100000 in
theorem eL_law_t : ∀ x ∈ tL_law_t, decode cL_law x.1 = .ok x.2 := by decide +kernel
set_option maxRecDepth 100000 in
set_option maxHeartbeats 4000000 in
theorem lw_loop {p : Program} {l : Launch} {e : Env} {s : State} {m : MethodId} {below : List Frame} {meth : Method} {c : Code} {b L : Nat} {xs : Nat → Int32} {D : va_G} {cA : Nat → ClassId} {ro0 : Nat → Option Nat} (C : lw_C p l s m meth c b L xs D cA ro0) (hr : meth.sig.returnType = ret) (hlk : meth.locks = false) : ∀ (n : Nat) {i x mm o : Nat} {iv : Int32} {ro : Nat → Option Nat} {H : Heap} {locs : List Loc} {ls : Array Slot} {cells slots : Nat}, L < i + 8 + 8 * n → i ≤ 5000 → iv.toInt = (i : Int) → lw_I D cA ro0 s x mm o ro H locs → lv_has ls 8 [(4, .int iv), (3, .ref o), (2, .ref mm), (1, .ref x), (0, .ref b)] → cells + 6 * n ≤ 601024 → slots + 147 * n ≤ 7293034 → W p l e room_1 s m #[Value.ref b] below meth c H locs cells slots (lw_Zr below #[Value.ref b] s) (F0 m 23 ls []) := by
  intro n
  induction n with
  | zero =>
    intro i x mm o iv ro H locs ls cells slots h1 h0 hiv I hl hc hs
    have hL := C.hL
    refine lv_iload C.hx C.hb (eL_law_h (23, .iload 4, 2) (List.mem_of_getElem? (i := 13) rfl)) (lv_at hl 0 rfl) ?_
    refine lv_aload_n C.hx C.hb (eL_law_h (25, .aload_n 0, 1) (List.mem_of_getElem? (i := 14) rfl)) rfl (lv_at hl 4 rfl) ?_
    refine lw_len C.hx C.hb C.hX (I.hh.2.1 b C.hbl) C.hL (eL_law_h (26, .arraylength, 1) (List.mem_of_getElem? (i := 15) rfl)) (fun v1 e1 => ?_)
    refine ff_bipush C.hx C.hb (eL_law_h (27, .bipush 8, 2) (List.mem_of_getElem? (i := 16) rfl)) (by decide) (by decide) (fun v2 e2 => ?_)
    refine ff_isub C.hx C.hb (eL_law_h (29, .isub, 1) (List.mem_of_getElem? (i := 17) rfl)) (by omega) (by omega) (fun v3 e3 => ?_)
    refine ff_icmp_gt C.hx C.hb (eL_law_h (30, .if_icmp .gt 1771, 3) (List.mem_of_getElem? (i := 18) rfl)) (tgt := 1801) rfl (fun c1 => ?_) (fun c1 => absurd c1 (by omega))
    refine ff_iconst C.hx C.hb (eL_law_t (1801, .iconst 1, 1) (List.mem_of_getElem? (i := 2) rfl)) (by decide) (by decide) (fun v9 e9 => ?_)
    exact W.widen (k := 601024) (n := 7293034) (by omega) (by omega) (lw_retG C.hx C.hb hr hlk (Int32.toInt_inj.mp (by rw [e9]; decide)) I.hh.2.2.1 (eL_law_t (1802, .ireturn, 1) (List.mem_of_getElem? (i := 3) rfl)))
  | succ n ih =>
    intro i x mm o iv ro H locs ls cells slots h1 h0 hiv I hl hc hs
    have hL := C.hL
    refine lv_iload C.hx C.hb (eL_law_h (23, .iload 4, 2) (List.mem_of_getElem? (i := 13) rfl)) (lv_at hl 0 rfl) ?_
    refine lv_aload_n C.hx C.hb (eL_law_h (25, .aload_n 0, 1) (List.mem_of_getElem? (i := 14) rfl)) rfl (lv_at hl 4 rfl) ?_
    refine lw_len C.hx C.hb C.hX (I.hh.2.1 b C.hbl) C.hL (eL_law_h (26, .arraylength, 1) (List.mem_of_getElem? (i := 15) rfl)) (fun v1 e1 => ?_)
    refine ff_bipush C.hx C.hb (eL_law_h (27, .bipush 8, 2) (List.mem_of_getElem? (i := 16) rfl)) (by decide) (by decide) (fun v2 e2 => ?_)
    refine ff_isub C.hx C.hb (eL_law_h (29, .isub, 1) (List.mem_of_getElem? (i := 17) rfl)) (by omega) (by omega) (fun v3 e3 => ?_)
    refine ff_icmp_gt C.hx C.hb (eL_law_h (30, .if_icmp .gt 1771, 3) (List.mem_of_getElem? (i := 18) rfl)) (tgt := 1801) rfl (fun c1 => ?_) (fun c1 => ?_)
    · skip
      refine ff_iconst C.hx C.hb (eL_law_t (1801, .iconst 1, 1) (List.mem_of_getElem? (i := 2) rfl)) (by decide) (by decide) (fun v9 e9 => ?_)
      exact W.widen (k := 601024) (n := 7293034) (by omega) (by omega) (lw_retG C.hx C.hb hr hlk (Int32.toInt_inj.mp (by rw [e9]; decide)) I.hh.2.2.1 (eL_law_t (1802, .ireturn, 1) (List.mem_of_getElem? (i := 3) rfl)))
    · have hi : i + 8 ≤ L := by omega
      have K : ∀ (ro9 : Nat → Option Nat) (H9 : Heap) (lo9 : List Loc) (ls9 : Array Slot), lw_I D cA ro0 s x mm o ro9 H9 lo9 → lv_has ls9 8 [(4, .int iv), (3, .ref o), (2, .ref mm), (1, .ref x), (0, .ref b)] → W p l e room_1 s m #[Value.ref b] below meth c H9 lo9 (cells + 6) (slots + 147) (lw_Zr below #[Value.ref b] s) (F0 m 1795 ls9 []) := by
        intro ro9 H9 lo9 ls9 I9 hl9
        refine lv_iinc (k := 0) C.hx C.hb (eL_law_t (1795, .iinc 4 8, 3) (List.mem_of_getElem? (i := 0) rfl)) hl9 rfl rfl (by decide) rfl (fun ls8 (hl8 : lv_has ls8 8 [(4, .int (iv + Int32.ofInt 8)), (3, .ref o), (2, .ref mm), (1, .ref x), (0, .ref b)]) => ?_)
        refine lv_goto C.hx C.hb (eL_law_t (1798, .goto (-1775), 3) (List.mem_of_getElem? (i := 1) rfl)) (tgt := 23) rfl ?_
        have e8 : (Int32.ofInt 8).toInt = 8 := by decide
        have e7 : (iv + Int32.ofInt 8).toInt = iv.toInt + (Int32.ofInt 8).toInt := zn_add (by omega) (by omega)
        exact ih (i := i + 8) (by omega) (by omega) (by rw [e7, e8, hiv]; omega) I9 hl8 (by omega) (by omega)
      refine lv_aload_n C.hx C.hb (eL_law_h (33, .aload_n 0, 1) (List.mem_of_getElem? (i := 19) rfl)) rfl (lv_at hl 4 rfl) ?_
      refine lv_iload C.hx C.hb (eL_law_h (34, .iload 4, 2) (List.mem_of_getElem? (i := 20) rfl)) (lv_at hl 0 rfl) ?_
      refine lw_sc (n := i) C.hx C.hb C.hX (I.hh.2.1 b C.hbl) hiv (by omega) rfl (eL_law_h (36, .iaload, 1) (List.mem_of_getElem? (i := 21) rfl)) ?_
      refine ff_bipush C.hx C.hb (eL_law_h (37, .bipush 31, 2) (List.mem_of_getElem? (i := 22) rfl)) (by decide) (by decide) (fun v4 e4 => ?_)
      refine lv_iand C.hx C.hb (eL_law_h (39, .iand, 1) (List.mem_of_getElem? (i := 23) rfl)) ?_
      generalize xs i &&& v4 = w
      have hc6 : cells + 6 ≤ 601024 := by omega
      have hs6 : slots + 147 ≤ 7293034 := by omega
      by_cases g1 : w.toInt < 0
      · exact lv_tableOut C.hx C.hb (eL_law_h (40, .tableswitch 1755 0 24 #[116, 168, 240, 292, 364, 392, 452, 524, 596, 624, 708, 736, 808, 904, 976, 1048, 1061, 1074, 1102, 1142, 1214, 1310, 1474, 1502, 1598], 116) (List.mem_of_getElem? (i := 24) rfl)) (Or.inl g1) (tgt := 1795) rfl (W.widen (k := cells + 6) (n := slots + 147) (by omega) (by omega) (K ro H locs ls I hl))
      by_cases g2 : 24 < w.toInt
      · exact lv_tableOut C.hx C.hb (eL_law_h (40, .tableswitch 1755 0 24 #[116, 168, 240, 292, 364, 392, 452, 524, 596, 624, 708, 736, 808, 904, 976, 1048, 1061, 1074, 1102, 1142, 1214, 1310, 1474, 1502, 1598], 116) (List.mem_of_getElem? (i := 24) rfl)) (Or.inr g2) (tgt := 1795) rfl (W.widen (k := cells + 6) (n := slots + 147) (by omega) (by omega) (K ro H locs ls I hl))
      by_cases q0 : w.toInt = 0
      · exact lv_tableIn C.hx C.hb (eL_law_h (40, .tableswitch 1755 0 24 #[116, 168, 240, 292, 364, 392, 452, 524, 596, 624, 708, 736, 808, 904, 976, 1048, 1061, 1074, 1102, 1142, 1214, 1310, 1474, 1502, 1598], 116) (List.mem_of_getElem? (i := 24) rfl)) g1 g2 (off := 116) (by rw [q0]; rfl) (tgt := 156) rfl (lw_case_0 C hi hiv I hl hc6 hs6 K)
      by_cases q1 : w.toInt = 1
      · exact lv_tableIn C.hx C.hb (eL_law_h (40, .tableswitch 1755 0 24 #[116, 168, 240, 292, 364, 392, 452, 524, 596, 624, 708, 736, 808, 904, 976, 1048, 1061, 1074, 1102, 1142, 1214, 1310, 1474, 1502, 1598], 116) (List.mem_of_getElem? (i := 24) rfl)) g1 g2 (off := 168) (by rw [q1]; rfl) (tgt := 208) rfl (lw_case_1 C hi hiv I hl hc6 hs6 K)
      by_cases q2 : w.toInt = 2
      · exact lv_tableIn C.hx C.hb (eL_law_h (40, .tableswitch 1755 0 24 #[116, 168, 240, 292, 364, 392, 452, 524, 596, 624, 708, 736, 808, 904, 976, 1048, 1061, 1074, 1102, 1142, 1214, 1310, 1474, 1502, 1598], 116) (List.mem_of_getElem? (i := 24) rfl)) g1 g2 (off := 240) (by rw [q2]; rfl) (tgt := 280) rfl (lw_case_2 C hi hiv I hl hc6 hs6 K)
      by_cases q3 : w.toInt = 3
      · exact lv_tableIn C.hx C.hb (eL_law_h (40, .tableswitch 1755 0 24 #[116, 168, 240, 292, 364, 392, 452, 524, 596, 624, 708, 736, 808, 904, 976, 1048, 1061, 1074, 1102, 1142, 1214, 1310, 1474, 1502, 1598], 116) (List.mem_of_getElem? (i := 24) rfl)) g1 g2 (off := 292) (by rw [q3]; rfl) (tgt := 332) rfl (lw_case_3 C hi hiv I hl hc6 hs6 K)
      by_cases q4 : w.toInt = 4
      · exact lv_tableIn C.hx C.hb (eL_law_h (40, .tableswitch 1755 0 24 #[116, 168, 240, 292, 364, 392, 452, 524, 596, 624, 708, 736, 808, 904, 976, 1048, 1061, 1074, 1102, 1142, 1214, 1310, 1474, 1502, 1598], 116) (List.mem_of_getElem? (i := 24) rfl)) g1 g2 (off := 364) (by rw [q4]; rfl) (tgt := 404) rfl (lw_case_4 C hi hiv I hl hc6 hs6 K)
      by_cases q5 : w.toInt = 5
      · exact lv_tableIn C.hx C.hb (eL_law_h (40, .tableswitch 1755 0 24 #[116, 168, 240, 292, 364, 392, 452, 524, 596, 624, 708, 736, 808, 904, 976, 1048, 1061, 1074, 1102, 1142, 1214, 1310, 1474, 1502, 1598], 116) (List.mem_of_getElem? (i := 24) rfl)) g1 g2 (off := 392) (by rw [q5]; rfl) (tgt := 432) rfl (lw_case_5 C hi hiv I hl hc6 hs6 K)
      by_cases q6 : w.toInt = 6
      · exact lv_tableIn C.hx C.hb (eL_law_h (40, .tableswitch 1755 0 24 #[116, 168, 240, 292, 364, 392, 452, 524, 596, 624, 708, 736, 808, 904, 976, 1048, 1061, 1074, 1102, 1142, 1214, 1310, 1474, 1502, 1598], 116) (List.mem_of_getElem? (i := 24) rfl)) g1 g2 (off := 452) (by rw [q6]; rfl) (tgt := 492) rfl (lw_case_6 C hi hiv I hl hc6 hs6 K)
      by_cases q7 : w.toInt = 7
      · exact lv_tableIn C.hx C.hb (eL_law_h (40, .tableswitch 1755 0 24 #[116, 168, 240, 292, 364, 392, 452, 524, 596, 624, 708, 736, 808, 904, 976, 1048, 1061, 1074, 1102, 1142, 1214, 1310, 1474, 1502, 1598], 116) (List.mem_of_getElem? (i := 24) rfl)) g1 g2 (off := 524) (by rw [q7]; rfl) (tgt := 564) rfl (lw_case_7 C hi hiv I hl hc6 hs6 K)
      by_cases q8 : w.toInt = 8
      · exact lv_tableIn C.hx C.hb (eL_law_h (40, .tableswitch 1755 0 24 #[116, 168, 240, 292, 364, 392, 452, 524, 596, 624, 708, 736, 808, 904, 976, 1048, 1061, 1074, 1102, 1142, 1214, 1310, 1474, 1502, 1598], 116) (List.mem_of_getElem? (i := 24) rfl)) g1 g2 (off := 596) (by rw [q8]; rfl) (tgt := 636) rfl (lw_case_8 C hi hiv I hl hc6 hs6 K)
      by_cases q9 : w.toInt = 9
      · exact lv_tableIn C.hx C.hb (eL_law_h (40, .tableswitch 1755 0 24 #[116, 168, 240, 292, 364, 392, 452, 524, 596, 624, 708, 736, 808, 904, 976, 1048, 1061, 1074, 1102, 1142, 1214, 1310, 1474, 1502, 1598], 116) (List.mem_of_getElem? (i := 24) rfl)) g1 g2 (off := 624) (by rw [q9]; rfl) (tgt := 664) rfl (lw_case_9 C hi hiv I hl hc6 hs6 K)
      by_cases q10 : w.toInt = 10
      · exact lv_tableIn C.hx C.hb (eL_law_h (40, .tableswitch 1755 0 24 #[116, 168, 240, 292, 364, 392, 452, 524, 596, 624, 708, 736, 808, 904, 976, 1048, 1061, 1074, 1102, 1142, 1214, 1310, 1474, 1502, 1598], 116) (List.mem_of_getElem? (i := 24) rfl)) g1 g2 (off := 708) (by rw [q10]; rfl) (tgt := 748) rfl (lw_case_10 C hi hiv I hl hc6 hs6 K)
      by_cases q11 : w.toInt = 11
      · exact lv_tableIn C.hx C.hb (eL_law_h (40, .tableswitch 1755 0 24 #[116, 168, 240, 292, 364, 392, 452, 524, 596, 624, 708, 736, 808, 904, 976, 1048, 1061, 1074, 1102, 1142, 1214, 1310, 1474, 1502, 1598], 116) (List.mem_of_getElem? (i := 24) rfl)) g1 g2 (off := 736) (by rw [q11]; rfl) (tgt := 776) rfl (lw_case_11 C hi hiv I hl hc6 hs6 K)
      by_cases q12 : w.toInt = 12
      · exact lv_tableIn C.hx C.hb (eL_law_h (40, .tableswitch 1755 0 24 #[116, 168, 240, 292, 364, 392, 452, 524, 596, 624, 708, 736, 808, 904, 976, 1048, 1061, 1074, 1102, 1142, 1214, 1310, 1474, 1502, 1598], 116) (List.mem_of_getElem? (i := 24) rfl)) g1 g2 (off := 808) (by rw [q12]; rfl) (tgt := 848) rfl (lw_case_12 C hi hiv I hl hc6 hs6 K)
      by_cases q13 : w.toInt = 13
      · exact lv_tableIn C.hx C.hb (eL_law_h (40, .tableswitch 1755 0 24 #[116, 168, 240, 292, 364, 392, 452, 524, 596, 624, 708, 736, 808, 904, 976, 1048, 1061, 1074, 1102, 1142, 1214, 1310, 1474, 1502, 1598], 116) (List.mem_of_getElem? (i := 24) rfl)) g1 g2 (off := 904) (by rw [q13]; rfl) (tgt := 944) rfl (lw_case_13 C hi hiv I hl hc6 hs6 K)
      by_cases q14 : w.toInt = 14
      · exact lv_tableIn C.hx C.hb (eL_law_h (40, .tableswitch 1755 0 24 #[116, 168, 240, 292, 364, 392, 452, 524, 596, 624, 708, 736, 808, 904, 976, 1048, 1061, 1074, 1102, 1142, 1214, 1310, 1474, 1502, 1598], 116) (List.mem_of_getElem? (i := 24) rfl)) g1 g2 (off := 976) (by rw [q14]; rfl) (tgt := 1016) rfl (lw_case_14 C hi hiv I hl hc6 hs6 K)
      by_cases q15 : w.toInt = 15
      · exact lv_tableIn C.hx C.hb (eL_law_h (40, .tableswitch 1755 0 24 #[116, 168, 240, 292, 364, 392, 452, 524, 596, 624, 708, 736, 808, 904, 976, 1048, 1061, 1074, 1102, 1142, 1214, 1310, 1474, 1502, 1598], 116) (List.mem_of_getElem? (i := 24) rfl)) g1 g2 (off := 1048) (by rw [q15]; rfl) (tgt := 1088) rfl (lw_case_15 C hi hiv I hl hc6 hs6 K)
      by_cases q16 : w.toInt = 16
      · exact lv_tableIn C.hx C.hb (eL_law_h (40, .tableswitch 1755 0 24 #[116, 168, 240, 292, 364, 392, 452, 524, 596, 624, 708, 736, 808, 904, 976, 1048, 1061, 1074, 1102, 1142, 1214, 1310, 1474, 1502, 1598], 116) (List.mem_of_getElem? (i := 24) rfl)) g1 g2 (off := 1061) (by rw [q16]; rfl) (tgt := 1101) rfl (lw_case_16 C hi hiv I hl hc6 hs6 K)
      by_cases q17 : w.toInt = 17
      · exact lv_tableIn C.hx C.hb (eL_law_h (40, .tableswitch 1755 0 24 #[116, 168, 240, 292, 364, 392, 452, 524, 596, 624, 708, 736, 808, 904, 976, 1048, 1061, 1074, 1102, 1142, 1214, 1310, 1474, 1502, 1598], 116) (List.mem_of_getElem? (i := 24) rfl)) g1 g2 (off := 1074) (by rw [q17]; rfl) (tgt := 1114) rfl (lw_case_17 C hi hiv I hl hc6 hs6 K)
      by_cases q18 : w.toInt = 18
      · exact lv_tableIn C.hx C.hb (eL_law_h (40, .tableswitch 1755 0 24 #[116, 168, 240, 292, 364, 392, 452, 524, 596, 624, 708, 736, 808, 904, 976, 1048, 1061, 1074, 1102, 1142, 1214, 1310, 1474, 1502, 1598], 116) (List.mem_of_getElem? (i := 24) rfl)) g1 g2 (off := 1102) (by rw [q18]; rfl) (tgt := 1142) rfl (lw_case_18 C hi hiv I hl hc6 hs6 K)
      by_cases q19 : w.toInt = 19
      · exact lv_tableIn C.hx C.hb (eL_law_h (40, .tableswitch 1755 0 24 #[116, 168, 240, 292, 364, 392, 452, 524, 596, 624, 708, 736, 808, 904, 976, 1048, 1061, 1074, 1102, 1142, 1214, 1310, 1474, 1502, 1598], 116) (List.mem_of_getElem? (i := 24) rfl)) g1 g2 (off := 1142) (by rw [q19]; rfl) (tgt := 1182) rfl (lw_case_19 C hi hiv I hl hc6 hs6 K)
      by_cases q20 : w.toInt = 20
      · exact lv_tableIn C.hx C.hb (eL_law_h (40, .tableswitch 1755 0 24 #[116, 168, 240, 292, 364, 392, 452, 524, 596, 624, 708, 736, 808, 904, 976, 1048, 1061, 1074, 1102, 1142, 1214, 1310, 1474, 1502, 1598], 116) (List.mem_of_getElem? (i := 24) rfl)) g1 g2 (off := 1214) (by rw [q20]; rfl) (tgt := 1254) rfl (lw_case_20 C hi hiv I hl hc6 hs6 K)
      by_cases q21 : w.toInt = 21
      · exact lv_tableIn C.hx C.hb (eL_law_h (40, .tableswitch 1755 0 24 #[116, 168, 240, 292, 364, 392, 452, 524, 596, 624, 708, 736, 808, 904, 976, 1048, 1061, 1074, 1102, 1142, 1214, 1310, 1474, 1502, 1598], 116) (List.mem_of_getElem? (i := 24) rfl)) g1 g2 (off := 1310) (by rw [q21]; rfl) (tgt := 1350) rfl (lw_case_21 C hi hiv I hl hc6 hs6 K)
      by_cases q22 : w.toInt = 22
      · exact lv_tableIn C.hx C.hb (eL_law_h (40, .tableswitch 1755 0 24 #[116, 168, 240, 292, 364, 392, 452, 524, 596, 624, 708, 736, 808, 904, 976, 1048, 1061, 1074, 1102, 1142, 1214, 1310, 1474, 1502, 1598], 116) (List.mem_of_getElem? (i := 24) rfl)) g1 g2 (off := 1474) (by rw [q22]; rfl) (tgt := 1514) rfl (lw_case_22 C hi hiv I hl hc6 hs6 K)
      by_cases q23 : w.toInt = 23
      · exact lv_tableIn C.hx C.hb (eL_law_h (40, .tableswitch 1755 0 24 #[116, 168, 240, 292, 364, 392, 452, 524, 596, 624, 708, 736, 808, 904, 976, 1048, 1061, 1074, 1102, 1142, 1214, 1310, 1474, 1502, 1598], 116) (List.mem_of_getElem? (i := 24) rfl)) g1 g2 (off := 1502) (by rw [q23]; rfl) (tgt := 1542) rfl (lw_case_23 C hi hiv I hl hc6 hs6 K)
      by_cases q24 : w.toInt = 24
      · exact lv_tableIn C.hx C.hb (eL_law_h (40, .tableswitch 1755 0 24 #[116, 168, 240, 292, 364, 392, 452, 524, 596, 624, 708, 736, 808, 904, 976, 1048, 1061, 1074, 1102, 1142, 1214, 1310, 1474, 1502, 1598], 116) (List.mem_of_getElem? (i := 24) rfl)) g1 g2 (off := 1598) (by rw [q24]; rfl) (tgt := 1638) rfl (lw_case_24 C hi hiv I hl hc6 hs6 K)
      exfalso
      omega
set_option maxRecDepth 100000 in
set_option maxHeartbeats 4000000 in
theorem lw_begin {p : Program} {l : Launch} {e : Env} {s : State} {m : MethodId} {below : List Frame} {meth : Method} {c : Code} {b L : Nat} {xs : Nat → Int32} {D : va_G} {cA : Nat → ClassId} {ro0 : Nat → Option Nat} (C : lw_C p l s m meth c b L xs D cA ro0) (hr : meth.sig.returnType = ret) (hlk : meth.locks = false) (h00 : zh_ok D cA RTg ro0 s.heap.size s.heap s.heap []) : W p l e room_1 s m #[Value.ref b] below meth c s.heap [] 0 0 (lw_Zr below #[Value.ref b] s) (entryFrame m ([Value.ref b] : List Value).toArray 8) := by
  have hts0 : ∀ w ∈ Cond.initialized "MomentTextsLaw" :: gT, w.before #[Value.ref b] s = true := fun w hw => (List.mem_cons.mp hw).elim (fun g => by rw [g]; exact C.h2 _ (tb_1 0 rfl rfl)) (C.h2 w)
  have hL := C.hL
  have hl := lv_entry [.ref b] (n := 8) (Nat.le_of_ble_eq_true rfl)
  rw [lg_entry_eq]
  generalize (lg_sl [.ref b] ++ List.replicate (8 - (lg_sl [.ref b]).length) Slot.unset).toArray = ls at hl ⊢
  refine tz_new (C := RX11) (T := TX11) (N := 9) (ci := 10) C.hx C.hb h00 C.h2 wiX11 tyX11 tyX11_ok C.hown (tb_1 23 rfl rfl) (tb_1 24 rfl rfl) (tb_1 1 rfl rfl) C.hKa.1.1.1 rfl (by decide) (by decide) (eL_law_h (0, .new 8, 3) (List.mem_of_getElem? (i := 0) rfl)) (fun b1 H1 hh1 hr1 hs1 hbs1 hz1 hO1 hq1 => ?_)
  refine lv_dup C.hx C.hb (eL_law_h (3, .dup, 1) (List.mem_of_getElem? (i := 1) rfl)) rfl ?_
  refine zo_call (As := []) (rest := [.ref b1]) (b := b1) C.hx C.hb C.hml C.hown hts0 (iX11Y l D cA ro0 s.heap.size s.heap b1) ⟨rfl, rfl⟩ ⟨by decide, by decide⟩ ⟨by decide, by decide⟩ (tb_1 27 rfl rfl) (tb_1 1 rfl rfl) (tb_1 25 rfl rfl) (tb_1 26 rfl rfl) rfl (show yX11_init.cls ≠ "java/lang/invoke/MethodHandle" ∧ yX11_init.cls ≠ "java/lang/invoke/VarHandle" ∧ (parseMethodDescriptor yX11_init.desc).map (fun d => d.parameters.length) = some 0 by decide +kernel) hh1 hr1 hs1 hO1 (C.hKa.ext (fun _ _ h => h)).2 hl.1 (Nat.le_of_ble_eq_true rfl) (eL_law_h (4, .invokespecial 98, 3) (List.mem_of_getElem? (i := 2) rfl)) (fun J1 lo1 ro1 he1 hn1 ha1 hi1 hy1 hw1 hE1 => ?_)
  refine lv_astore_n C.hx C.hb (eL_law_h (7, .astore_n 1, 1) (List.mem_of_getElem? (i := 3) rfl)) rfl hl (by decide) rfl (fun ls1 (hl1 : lv_has ls1 8 [(1, .ref b1), (0, .ref b)]) => ?_)
  refine tz_new (C := RX12) (T := TX12) (N := 41) (ci := 11) C.hx C.hb hi1 C.h2 wiX12 tyX12 tyX12_ok C.hown (tb_6 126 rfl rfl) (tb_6 127 rfl rfl) (tb_1 12 rfl rfl) C.hKa.1.1.1 rfl (by decide) (by decide) (eL_law_h (8, .new 99, 3) (List.mem_of_getElem? (i := 4) rfl)) (fun b2 H2 hh2 hr2 hs2 hbs2 hz2 hO2 hq2 => ?_)
  refine lv_dup C.hx C.hb (eL_law_h (11, .dup, 1) (List.mem_of_getElem? (i := 5) rfl)) rfl ?_
  refine zo_call (As := []) (rest := [.ref b2]) (b := b2) C.hx C.hb C.hml C.hown hts0 (iX12 l D cA ro1 s.heap.size s.heap b2) ⟨rfl, rfl⟩ ⟨by decide, by decide⟩ ⟨by decide, by decide⟩ (tb_6 130 rfl rfl) (tb_1 12 rfl rfl) (tb_6 128 rfl rfl) (tb_6 129 rfl rfl) rfl (show yX12_init.cls ≠ "java/lang/invoke/MethodHandle" ∧ yX12_init.cls ≠ "java/lang/invoke/VarHandle" ∧ (parseMethodDescriptor yX12_init.desc).map (fun d => d.parameters.length) = some 0 by decide +kernel) hh2 hr2 hs2 hO2 (C.hKa.ext he1).2 hl1.1 (Nat.le_of_ble_eq_true rfl) (eL_law_h (12, .invokespecial 101, 3) (List.mem_of_getElem? (i := 6) rfl)) (fun J2 lo2 ro2 he2 hn2 ha2 hi2 hy2 hw2 hE2 => ?_)
  have he12 : ∀ q r, ro0 q = some r → ro2 q = some r := fun q r g => he2 q r (he1 q r g)
  refine lv_astore_n C.hx C.hb (eL_law_h (15, .astore_n 2, 1) (List.mem_of_getElem? (i := 7) rfl)) rfl hl1 (by decide) rfl (fun ls2 (hl2 : lv_has ls2 8 [(2, .ref b2), (1, .ref b1), (0, .ref b)]) => ?_)
  refine ff_iconst C.hx C.hb (eL_law_h (16, .iconst 1, 1) (List.mem_of_getElem? (i := 8) rfl)) (by decide) (by decide) (fun v1 e1 => ?_)
  refine tz_newa (atype := .long) (N := 1) (ti := 1) (r := 42) (t := (1, (-9223372036854775808), 9223372036854775807)) C.hx C.hb hi2 (C.h2 _ (tb_1 44 rfl rfl)) (zo_cA (ti := 1) (tys := (cA 1, .long)) C.hKa.1.1.1 rfl) rfl (fun _ => ⟨0, rfl, by decide, by decide⟩) e1 (by decide) (by decide) (by decide) (eL_law_h (17, .newarray .long, 2) (List.mem_of_getElem? (i := 9) rfl)) (fun b3 ro3 H3 hh3 hr3 he3 hq3 => ?_)
  refine lv_astore_n C.hx C.hb (eL_law_h (19, .astore_n 3, 1) (List.mem_of_getElem? (i := 10) rfl)) rfl hl2 (by decide) rfl (fun ls3 (hl3 : lv_has ls3 8 [(3, .ref b3), (2, .ref b2), (1, .ref b1), (0, .ref b)]) => ?_)
  refine ff_iconst C.hx C.hb (eL_law_h (20, .iconst 0, 1) (List.mem_of_getElem? (i := 11) rfl)) (by decide) (by decide) (fun v2 e2 => ?_)
  refine lv_istore C.hx C.hb (eL_law_h (21, .istore 4, 2) (List.mem_of_getElem? (i := 12) rfl)) hl3 (by decide) rfl (fun ls4 (hl4 : lv_has ls4 8 [(4, .int v2), (3, .ref b3), (2, .ref b2), (1, .ref b1), (0, .ref b)]) => ?_)
  have j1 : jCY D cA ro1 J1 b1 [] ([], []) ∧ jCK D cA ro1 J1 b1 [] [] := by
    obtain ⟨h1, ⟨lp, h2, h3, h4⟩, ⟨tx, t2, t3, t4⟩, ⟨wr, w2, w3, w4⟩, ⟨dr, df, dt, e1, e2, e3, e4, e5, e6, e7⟩⟩ := hE1
    exact ⟨⟨⟨⟨lp, h2, h3, jLp_nil hi1 h3 h4⟩, jZs_nil hi1 ha1 h1, jL_nil, jZw_nil⟩, jRR_nil hi1 ha1 h1 h2 ⟨e1, e2, e3, e4, e5, e6, e7⟩⟩, ⟨tx, t2, t3, jTx_nil hi1 t3 t4⟩, ⟨wr, w2, w3, jW_nil hi1 w3 w4⟩, by decide, by decide, fun c hc => by cases hc⟩
  have k1 : zc_kept D RTg ro1 [] J1 H2 := kept_grow hi1 hq2
  have k2 : zc_kept D RTg ro1 [] H2 J2 := kept_but hr2 hh2 hw2
  have j2 := ((j1.1.kept ha1 k1 (by decide)).kept ha1 k2 (by decide)).ext he2
  have c2 := ((j1.2.kept ha1 k1 (by decide)).kept ha1 k2 (by decide)).ext he2
  have k3 : zc_kept D RTg ro2 [] J2 H3 := kept_grow hi2 hq3
  have j3 := (j2.kept (he2 _ _ ha1) k3 (by decide)).ext he3
  have c3 := (c2.kept (he2 _ _ ha1) k3 (by decide)).ext he3
  have r2 : jRY D cA ro2 J2 b2 [] ([], []) ∧ jRK D cA ro2 J2 b2 [] [] := by
    obtain ⟨h1, h2, h3, h4⟩ := hE2
    exact ⟨⟨⟨jR_nil hi2 ha2 h1, jZq_nil hi2 ha2 h2, jL_nil, jZw_nil⟩, jRQ_nil hi2 ha2, rfl, fun e he => by cases he⟩, jRK_nil hi2 ha2 h3 h4⟩
  have r3 := (r2.1.kept ha2 k3 (by decide)).ext he3
  have d3 := (r2.2.kept ha2 k3 (by decide)).ext he3
  exact lw_loop C hr hlk 512 (i := 0) (by omega) (by omega) (by rw [e2]; rfl) ⟨hh3, fun q r g => he3 q r (he12 q r g), he3 _ _ (he2 _ _ ha1), he3 _ _ ha2, hr3, ⟨[], ([], []), j3, r3, ⟨fun e he => (by cases he), fun e he => by cases he⟩⟩, [], [], c3, d3⟩ hl4 (by omega) (by omega)
