def jK (D : va_G) (cA : Nat → ClassId) (ro : Nat → Option Nat) (H : Heap) (x a : Nat) : Prop := ∃ T O : List Int, jCK D cA ro H x T O ∧ jRK D cA ro H a T O
section JKS
variable {D : va_G} {cA : Nat → ClassId} {ro ro' : Nat → Option Nat} {sz : Nat} {H0 H H' : Heap} {locs : List Loc} {ms : List (Nat × Nat)} {x a : Nat}
theorem jK.kept (hx : ro x = some 10) (ha : ro a = some 11) (h : zc_kept D RTg ro ms H H') (h1 : ∀ y ∈ kFc, y ∉ ms) (h2 : ∀ y ∈ kFr, y ∉ ms) (j : jK D cA ro H x a) : jK D cA ro H' x a := by
  obtain ⟨T, O, j1, j2⟩ := j
  exact ⟨T, O, j1.kept hx h h1, j2.kept ha h h2⟩
theorem jK.ext (he : ∀ q r, ro q = some r → ro' q = some r) (j : jK D cA ro H x a) : jK D cA ro' H x a := by
  obtain ⟨T, O, j1, j2⟩ := j
  exact ⟨T, O, j1.ext he, j2.ext he⟩
theorem jTx_nil {tx : Nat} (hh : zh_ok D cA RTg ro sz H0 H locs) (hl : ro tx = some 0) (h : zh_f D H tx 0 1 = .int 0) : jTx D cA ro H tx [] := by
  obtain ⟨la, f0, r0⟩ := tz_ref (k := 0) (rr := 12) hh hl (show RTg[0]? = some (0, 0, 0, fsX0) from rfl) rfl
  obtain ⟨-, z, hc, -⟩ := zh_arr hh r0 (show RTg[12]? = some (1, 2, 120, [(0, (-128), 127)]) from rfl)
  exact ⟨la, 0, z, f0, r0, h, by decide, hc, fun i hi => absurd hi (Nat.not_lt_zero _)⟩
theorem jW_nil {wr : Nat} (hh : zh_ok D cA RTg ro sz H0 H locs) (hl : ro wr = some 8) (h : zh_f D H wr 8 1 = .int 0) : jW D cA ro H wr [] := by
  obtain ⟨la, f0, r0⟩ := tz_ref (k := 0) (rr := 16) hh hl (show RTg[8]? = some (0, 8, 0, fsX9) from rfl) rfl
  obtain ⟨-, z, hc, -⟩ := zh_arr hh r0 (show RTg[16]? = some (1, 2, 120, [(0, (-128), 127)]) from rfl)
  exact ⟨la, 0, z, f0, r0, h, by decide, hc, fun i hi => absurd hi (Nat.not_lt_zero _)⟩
theorem jRK_nil (hh : zh_ok D cA RTg ro sz H0 H locs) (ha : ro a = some 11) (h : zh_f D H a 11 13 = .int 0) (g : zh_f D H a 11 15 = .int 0) : jRK D cA ro H a [] [] := by
  obtain ⟨la, f0, r0⟩ := tz_ref (k := 12) (rr := 30) hh ha (show RTg[11]? = some (0, 11, 0, fsX12) from rfl) rfl
  obtain ⟨-, z, hc, -⟩ := zh_arr hh r0 (show RTg[30]? = some (1, 2, 120, [(0, (-128), 127)]) from rfl)
  obtain ⟨lb, f1, r1⟩ := tz_ref (k := 14) (rr := 31) hh ha (show RTg[11]? = some (0, 11, 0, fsX12) from rfl) rfl
  obtain ⟨-, z1, hc1, -⟩ := zh_arr hh r1 (show RTg[31]? = some (1, 2, 160, [(0, (-128), 127)]) from rfl)
  exact ⟨⟨la, 0, z, f0, r0, h, by decide, hc, fun i hi => absurd hi (Nat.not_lt_zero _)⟩, ⟨lb, 0, z1, f1, r1, g, by decide, hc1, fun i hi => absurd hi (Nat.not_lt_zero _)⟩, by decide, by decide, fun c hc => by cases hc⟩
end JKS
/-! the law: its context, its state, its rows -/
def lgI (a b : Int32) : Int64 := (a.toInt64 <<< (((Int8.ofInt 32).toInt32).toInt64 &&& 63)) ||| (b.toInt64 &&& 4294967295)
def lw_C (p : Program) (l : Launch) (s : State) (m : MethodId) (meth : Method) (c : Code) (b L : Nat) (xs : Nat → Int32) (D : va_G) (cA : Nat → ClassId) (ro0 : Nat → Option Nat) : Prop := (p.tables.exec = Jvm.exec) ∧ (c.code = cL_law) ∧ (c.maxLocals = 8) ∧ (s.vm.findClass RL = some m.cls) ∧ (∀ w ∈ gT, w.before #[Value.ref b] s = true) ∧ (va_X b L xs s s.heap) ∧ (b < s.heap.size) ∧ (l.stackTraces = false) ∧ (zKa D cA ro0 s.heap.size s.heap s) ∧ (zBM cA s ∧ zLQ s.heap.size s.heap s) ∧ (L ≤ 4096)
theorem lw_C.hx {p : Program} {l : Launch} {s : State} {m : MethodId} {meth : Method} {c : Code} {b L : Nat} {xs : Nat → Int32} {D : va_G} {cA : Nat → ClassId} {ro0 : Nat → Option Nat} (h : lw_C p l s m meth c b L xs D cA ro0) : p.tables.exec = Jvm.exec := h.1
theorem lw_C.hb {p : Program} {l : Launch} {s : State} {m : MethodId} {meth : Method} {c : Code} {b L : Nat} {xs : Nat → Int32} {D : va_G} {cA : Nat → ClassId} {ro0 : Nat → Option Nat} (h : lw_C p l s m meth c b L xs D cA ro0) : c.code = cL_law := h.2.1
theorem lw_C.hml {p : Program} {l : Launch} {s : State} {m : MethodId} {meth : Method} {c : Code} {b L : Nat} {xs : Nat → Int32} {D : va_G} {cA : Nat → ClassId} {ro0 : Nat → Option Nat} (h : lw_C p l s m meth c b L xs D cA ro0) : c.maxLocals = 8 := h.2.2.1
theorem lw_C.hown {p : Program} {l : Launch} {s : State} {m : MethodId} {meth : Method} {c : Code} {b L : Nat} {xs : Nat → Int32} {D : va_G} {cA : Nat → ClassId} {ro0 : Nat → Option Nat} (h : lw_C p l s m meth c b L xs D cA ro0) : s.vm.findClass RL = some m.cls := h.2.2.2.1
theorem lw_C.h2 {p : Program} {l : Launch} {s : State} {m : MethodId} {meth : Method} {c : Code} {b L : Nat} {xs : Nat → Int32} {D : va_G} {cA : Nat → ClassId} {ro0 : Nat → Option Nat} (h : lw_C p l s m meth c b L xs D cA ro0) : ∀ w ∈ gT, w.before #[Value.ref b] s = true := h.2.2.2.2.1
theorem lw_C.hX {p : Program} {l : Launch} {s : State} {m : MethodId} {meth : Method} {c : Code} {b L : Nat} {xs : Nat → Int32} {D : va_G} {cA : Nat → ClassId} {ro0 : Nat → Option Nat} (h : lw_C p l s m meth c b L xs D cA ro0) : va_X b L xs s s.heap := h.2.2.2.2.2.1
theorem lw_C.hbl {p : Program} {l : Launch} {s : State} {m : MethodId} {meth : Method} {c : Code} {b L : Nat} {xs : Nat → Int32} {D : va_G} {cA : Nat → ClassId} {ro0 : Nat → Option Nat} (h : lw_C p l s m meth c b L xs D cA ro0) : b < s.heap.size := h.2.2.2.2.2.2.1
theorem lw_C.hst {p : Program} {l : Launch} {s : State} {m : MethodId} {meth : Method} {c : Code} {b L : Nat} {xs : Nat → Int32} {D : va_G} {cA : Nat → ClassId} {ro0 : Nat → Option Nat} (h : lw_C p l s m meth c b L xs D cA ro0) : l.stackTraces = false := h.2.2.2.2.2.2.2.1
theorem lw_C.hKa {p : Program} {l : Launch} {s : State} {m : MethodId} {meth : Method} {c : Code} {b L : Nat} {xs : Nat → Int32} {D : va_G} {cA : Nat → ClassId} {ro0 : Nat → Option Nat} (h : lw_C p l s m meth c b L xs D cA ro0) : zKa D cA ro0 s.heap.size s.heap s := h.2.2.2.2.2.2.2.2.1
theorem lw_C.hBM {p : Program} {l : Launch} {s : State} {m : MethodId} {meth : Method} {c : Code} {b L : Nat} {xs : Nat → Int32} {D : va_G} {cA : Nat → ClassId} {ro0 : Nat → Option Nat} (h : lw_C p l s m meth c b L xs D cA ro0) : zBM cA s := h.2.2.2.2.2.2.2.2.2.1.1
theorem lw_C.hLQ {p : Program} {l : Launch} {s : State} {m : MethodId} {meth : Method} {c : Code} {b L : Nat} {xs : Nat → Int32} {D : va_G} {cA : Nat → ClassId} {ro0 : Nat → Option Nat} (h : lw_C p l s m meth c b L xs D cA ro0) : zLQ s.heap.size s.heap s := h.2.2.2.2.2.2.2.2.2.1.2
theorem lw_C.hL {p : Program} {l : Launch} {s : State} {m : MethodId} {meth : Method} {c : Code} {b L : Nat} {xs : Nat → Int32} {D : va_G} {cA : Nat → ClassId} {ro0 : Nat → Option Nat} (h : lw_C p l s m meth c b L xs D cA ro0) : L ≤ 4096 := h.2.2.2.2.2.2.2.2.2.2
def lw_I (D : va_G) (cA : Nat → ClassId) (ro0 : Nat → Option Nat) (s : State) (x mm o : Nat) (ro : Nat → Option Nat) (H : Heap) (locs : List Loc) : Prop := (zh_ok D cA RTg ro s.heap.size s.heap H locs) ∧ (∀ q r, ro0 q = some r → ro q = some r) ∧ (ro x = some 10) ∧ (ro mm = some 11) ∧ (ro o = some 42) ∧ jJ D cA ro H x mm ∧ jK D cA ro H x mm ∧ jRr D ro H x
theorem lw_I.hh {D : va_G} {cA : Nat → ClassId} {ro0 : Nat → Option Nat} {s : State} {x mm o : Nat} {ro : Nat → Option Nat} {H : Heap} {locs : List Loc} (h : lw_I D cA ro0 s x mm o ro H locs) : zh_ok D cA RTg ro s.heap.size s.heap H locs := h.1
theorem lw_I.he {D : va_G} {cA : Nat → ClassId} {ro0 : Nat → Option Nat} {s : State} {x mm o : Nat} {ro : Nat → Option Nat} {H : Heap} {locs : List Loc} (h : lw_I D cA ro0 s x mm o ro H locs) : ∀ q r, ro0 q = some r → ro q = some r := h.2.1
theorem lw_I.hx10 {D : va_G} {cA : Nat → ClassId} {ro0 : Nat → Option Nat} {s : State} {x mm o : Nat} {ro : Nat → Option Nat} {H : Heap} {locs : List Loc} (h : lw_I D cA ro0 s x mm o ro H locs) : ro x = some 10 := h.2.2.1
theorem lw_I.hm11 {D : va_G} {cA : Nat → ClassId} {ro0 : Nat → Option Nat} {s : State} {x mm o : Nat} {ro : Nat → Option Nat} {H : Heap} {locs : List Loc} (h : lw_I D cA ro0 s x mm o ro H locs) : ro mm = some 11 := h.2.2.2.1
theorem lw_I.ho42 {D : va_G} {cA : Nat → ClassId} {ro0 : Nat → Option Nat} {s : State} {x mm o : Nat} {ro : Nat → Option Nat} {H : Heap} {locs : List Loc} (h : lw_I D cA ro0 s x mm o ro H locs) : ro o = some 42 := h.2.2.2.2.1
theorem lw_I.hj {D : va_G} {cA : Nat → ClassId} {ro0 : Nat → Option Nat} {s : State} {x mm o : Nat} {ro : Nat → Option Nat} {H : Heap} {locs : List Loc} (h : lw_I D cA ro0 s x mm o ro H locs) : jJ D cA ro H x mm := h.2.2.2.2.2.1
theorem lw_I.hk {D : va_G} {cA : Nat → ClassId} {ro0 : Nat → Option Nat} {s : State} {x mm o : Nat} {ro : Nat → Option Nat} {H : Heap} {locs : List Loc} (h : lw_I D cA ro0 s x mm o ro H locs) : jK D cA ro H x mm := h.2.2.2.2.2.2.1
theorem lw_I.hq {D : va_G} {cA : Nat → ClassId} {ro0 : Nat → Option Nat} {s : State} {x mm o : Nat} {ro : Nat → Option Nat} {H : Heap} {locs : List Loc} (h : lw_I D cA ro0 s x mm o ro H locs) : jRr D ro H x := h.2.2.2.2.2.2.2
section LWR
variable {p : Program} {l : Launch} {e : Env} {R : Room} {s : State} {m : MethodId} {args : Array Value} {below : List Frame} {meth : Method} {c : Code} {H : Heap} {locs : List Loc} {cells slots : Nat} {Q : State → Prop} {cc : ByteArray} {pc : Nat} {ls : Array Slot} {st : List Value}
theorem lw_sc {b L n : Nat} {xs : Nat → Int32} {j y : Int32} (hx : p.tables.exec = Jvm.exec) (hb : c.code = cc) (hX : va_X b L xs s s.heap) (hH : H[b]? = s.heap[b]?) (hj : j.toInt = (n : Int)) (hn : n < L) (hy : xs n = y) (hd : decode cc pc = .ok (.iaload, 1)) (kk : W p l e R s m args below meth c H locs cells slots Q (F0 m (pc + 1) ls (.int y :: st))) : W p l e R s m args below meth c H locs cells slots Q (F0 m pc ls (.int j :: .ref b :: st)) := by
  obtain ⟨scr, h1, h2, h3, h4, h5⟩ := hX
  have hjn : j.toNatClampNeg = n := by show j.toInt.toNat = n; omega
  subst hy
  exact W.iald (v := .int (xs n)) hx hb (hH.trans h1) h2 h3 (by rw [h4]; exact tz_in (by omega) (by omega)) (by rw [hjn]; exact h5 _ hn) rfl rfl hd kk
theorem lw_len {b L : Nat} {xs : Nat → Int32} (hx : p.tables.exec = Jvm.exec) (hb : c.code = cc) (hX : va_X b L xs s s.heap) (hH : H[b]? = s.heap[b]?) (hL : L ≤ 4096) (hd : decode cc pc = .ok (.arraylength, 1)) (kk : ∀ n : Int32, n.toInt = (L : Int) → W p l e R s m args below meth c H locs cells slots Q (F0 m (pc + 1) ls (.int n :: st))) : W p l e R s m args below meth c H locs cells slots Q (F0 m pc ls (.ref b :: st)) := by
  obtain ⟨scr, h1, h2, h3, h4, h5⟩ := hX
  exact W.alen (n := nI L) hx hb (hH.trans h1) h2 (by rw [h4] <;> rfl) rfl rfl hd (kk _ (nI_toInt (by omega)))
end LWR
section LWD
variable {p : Program} {l : Launch} {e : Env} {R : Room} {s : State} {m : MethodId} {below : List Frame} {meth : Method} {c : Code} {H : Heap} {locs : List Loc} {cells slots : Nat} {Q : State → Prop} {pc : Nat} {ls : Array Slot} {st : List Value} {b L i k : Nat} {xs : Nat → Int32} {D : va_G} {cA : Nat → ClassId} {ro0 : Nat → Option Nat} {iv y : Int32} {n : Int}
theorem lw_rd (C : lw_C p l s m meth c b L xs D cA ro0) (hi : i + 8 ≤ L) (hiv : iv.toInt = (i : Int)) (hH : H[b]? = s.heap[b]?) (h4 : ls[4]? = some (.val (.int iv))) (h0 : ls[0]? = some (.val (.ref b))) (hk : k < 8) (hn : n = (k : Int)) (d0 : decode cL_law pc = .ok (.aload_n 0, 1)) (d1 : decode cL_law (pc + 1) = .ok (.iload 4, 2)) (d2 : decode cL_law (pc + 3) = .ok (.iconst n, 1)) (d3 : decode cL_law (pc + 4) = .ok (.iadd, 1)) (d4 : decode cL_law (pc + 5) = .ok (.iaload, 1)) (hy : xs (i + k) = y) (kk : W p l e R s m #[Value.ref b] below meth c H locs cells slots Q (F0 m (pc + 6) ls (.int y :: st))) : W p l e R s m #[Value.ref b] below meth c H locs cells slots Q (F0 m pc ls st) := by
  have hL := C.hL
  refine lv_aload_n C.hx C.hb d0 rfl h0 ?_
  refine lv_iload C.hx C.hb d1 h4 ?_
  refine ff_iconst C.hx C.hb d2 (by omega) (by omega) (fun v1 e1 => ?_)
  refine ff_iadd C.hx C.hb d3 (by omega) (by omega) (fun v2 e2 => ?_)
  exact lw_sc (n := i + k) C.hx C.hb C.hX hH (by omega) (by omega) hy d4 kk
theorem lw_rdB (C : lw_C p l s m meth c b L xs D cA ro0) (hi : i + 8 ≤ L) (hiv : iv.toInt = (i : Int)) (hH : H[b]? = s.heap[b]?) (h4 : ls[4]? = some (.val (.int iv))) (h0 : ls[0]? = some (.val (.ref b))) (hk : k < 8) (hn : n = (k : Int)) (d0 : decode cL_law pc = .ok (.aload_n 0, 1)) (d1 : decode cL_law (pc + 1) = .ok (.iload 4, 2)) (d2 : decode cL_law (pc + 3) = .ok (.bipush n, 2)) (d3 : decode cL_law (pc + 5) = .ok (.iadd, 1)) (d4 : decode cL_law (pc + 6) = .ok (.iaload, 1)) (hy : xs (i + k) = y) (kk : W p l e R s m #[Value.ref b] below meth c H locs cells slots Q (F0 m (pc + 7) ls (.int y :: st))) : W p l e R s m #[Value.ref b] below meth c H locs cells slots Q (F0 m pc ls st) := by
  have hL := C.hL
  refine lv_aload_n C.hx C.hb d0 rfl h0 ?_
  refine lv_iload C.hx C.hb d1 h4 ?_
  refine ff_bipush C.hx C.hb d2 (by omega) (by omega) (fun v1 e1 => ?_)
  refine ff_iadd C.hx C.hb d3 (by omega) (by omega) (fun v2 e2 => ?_)
  exact lw_sc (n := i + k) C.hx C.hb C.hX hH (by omega) (by omega) hy d4 kk
end LWD
theorem lw_ob12 {D : va_G} {cA : Nat → ClassId} {ro : Nat → Option Nat} {sz : Nat} {H0 H : Heap} {locs : List Loc} {s : State} {x : Nat} (hh : zh_ok D cA RTg ro sz H0 H locs) (hK : zK0 D cA s) (hx : ro x = some 11) : ∃ cell : Cell, H[x]? = some cell ∧ cell.vm = .none ∧ s.vm.findClass RX12 = some cell.cls := by
  obtain ⟨-, cell, c1, c2, c3, -⟩ := zh_obj hh hx (show RTg[11]? = some (0, 11, 0, fsX12) from rfl)
  exact ⟨cell, c1, c3, by rw [c2]; exact zCX12 hK⟩
theorem va_Zlt {C n d : String} {v : Value} {A : Nat → Prop} {U : State} {H H1 : Heap} (h : va_Z C n d v A U H) (hq : ∀ q : Nat, q < H.size → H1[q]? = H[q]?) : va_Z C n d v A U H1 := by
  obtain ⟨c, k, i, f, a, cell, h1, h2, h3, h4, h5, h6⟩ := h
  exact ⟨c, k, i, f, a, cell, h1, h2, h3, h4, (hq a (Array.getElem?_eq_some_iff.mp h5).1).trans h5, h6⟩
theorem lw_BM {D : va_G} {cA : Nat → ClassId} {ro : Nat → Option Nat} {s U : State} {H : Heap} {locs : List Loc} (h : zBM cA s) (hh : zh_ok D cA RTg ro s.heap.size s.heap H locs) (hU : U.heap = H) (hW : s.WarmedH U.vm) : zBM cA U := by
  obtain ⟨a, z, h1, h2, h3, h4⟩ := h
  refine ⟨a, z, ?_, ?_, h3, State.isArrayOf_alike hW.alike h4.1, h4.2⟩
  · rw [hU]; exact va_Z.moved hW.alike (va_Zlt h1 (fun q hq => hh.2.1 q hq))
  · rw [hU, hh.2.1 a (Array.getElem?_eq_some_iff.mp h2).1]; exact h2
theorem jLp_nil {D : va_G} {cA : Nat → ClassId} {ro : Nat → Option Nat} {sz : Nat} {H0 H : Heap} {locs : List Loc} {lp : Nat} (hh : zh_ok D cA RTg ro sz H0 H locs) (hl : ro lp = some 4) (h : zh_f D H lp 4 1 = .int 0) : jLp D cA ro H lp [] := by
  obtain ⟨la, f0, r0⟩ := tz_ref (k := 0) (rr := 13) hh hl (show RTg[4]? = some (0, 4, 0, fsX5) from rfl) rfl
  obtain ⟨-, z, hc, -⟩ := zh_arr hh r0 (show RTg[13]? = some (1, 1, 40, [(1, (-9223372036854775808), 9223372036854775807)]) from rfl)
  exact ⟨la, 0, z, f0, r0, h, by decide, hc, fun i hi => absurd hi (Nat.not_lt_zero _)⟩
theorem jR_nil {D : va_G} {cA : Nat → ClassId} {ro : Nat → Option Nat} {sz : Nat} {H0 H : Heap} {locs : List Loc} {a : Nat} (hh : zh_ok D cA RTg ro sz H0 H locs) (ha : ro a = some 11) (h : zh_f D H a 11 1 = .int 0) : jR D cA ro H a [] := by
  obtain ⟨la, f0, r0⟩ := tz_ref (k := 2) (rr := 21) hh ha (show RTg[11]? = some (0, 11, 0, fsX12) from rfl) rfl
  obtain ⟨-, z, hc, -⟩ := zh_arr hh r0 (show RTg[21]? = some (1, 1, 40, [(1, (-9223372036854775808), 9223372036854775807)]) from rfl)
  exact ⟨la, 0, z, f0, r0, h, by decide, hc, fun i hi => absurd hi (Nat.not_lt_zero _)⟩
theorem jL_nil : jL [] := ⟨List.nodup_nil, by decide, fun d h => by cases h⟩
