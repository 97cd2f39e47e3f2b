section LGW
variable {p : Program} {l : Launch} {e : Env} {R : Room} {s : State} {m : MethodId} {args : Array Value} {below : List Frame} {meth : Method} {c : Code} {H : Heap} {locs : List Loc} {cells slots : Nat} {Q : State → Prop} {cc : ByteArray} {pc : Nat} {ls : Array Slot} {st : List Value}
variable {D : va_G} {cA : Nat → ClassId} {ro : Nat → Option Nat} {sz : Nat} {H0 : Heap}
theorem zx_leafGW {ik is ic mc ms : Nat} {cls text : String} {Qc : Array Value → State → Outcome → State → Prop} {XC : String → State → State → Prop} (hx : p.tables.exec = Jvm.exec) (hb : c.code = cc) (hl : l.stackTraces = false) (hown : s.vm.findClass RX11 = some m.cls) (hts : ∀ w ∈ gT, w.before args s = true) (hK : zKx D cA ro sz H0 s) (hh0 : zh_ok D cA RTg ro sz H0 s.heap []) (hh : zh_ok D cA RTg ro sz H0 H locs) (hsize : ls.size = c.maxLocals) (hout : ∀ x ∈ c.exceptionTable.toList, False) (hlocks : meth.locks = false) (hR : 6 ≤ R.frames ∧ 82 ≤ R.locals ∧ cells + 1 ≤ R.cells ∧ slots + 6 ≤ R.slots)
    (hcl : Cond.classLink RX11 ik cls ∈ gT) (hini : Cond.initialized cls ∈ gT) (hstr : (is, text) ∈ gS) (hat : ∀ w ∈ gAt ic cls, w ∈ gT ∨ w ∈ gNg) (hfit : Bundle.fit cls = true) (hmc : cells + 1 ≤ mc) (hms : slots + 6 ≤ ms) (hX : ∀ t : State, H.size ≤ t.heap.size → (∀ q : Nat, q < H.size → t.heap[q]? = H[q]?) → XC cls s t)
    (d0 : decode cc pc = .ok (.new ik, 3)) (d3 : decode cc (pc + 3) = .ok (.dup, 1)) (d4 : decode cc (pc + 4) = .ok (.ldc_w is, 3)) (d6 : decode cc (pc + 7) = .ok (.invokespecial ic, 3)) (d9 : decode cc (pc + 10) = .ok (.athrow, 1)) :
    W p l e R s m args below meth c H locs cells slots (vx_MQ below Qc XC args s mc ms (zy_fr sz)) (F0 m pc ls []) := by
  intro T hT X
  have hsz : s.heap.size ≤ H.size := by
    have h1 : s.heap.size ≤ T.heap.size := X.same.2.1
    rw [hT] at h1; exact h1
  obtain ⟨sa, hsa⟩ := hK.2.2.2.1 _ hstr
  have hU : ∀ {n d : String}, vx_Zq Bundle.tN n d (fun q => sz ≤ q) s H0 → vx_Zq Bundle.tN n d (fun q => sz ≤ q) s s.heap := fun h => h.kept (fun q _ h2 => hh0.2.1 q (Nat.not_le.mp h2))
  have hS : va_S (fun q => sz ≤ q) s.heap H locs := ⟨hsz, fun q _ h2 => by rw [hh.2.1 q (Nat.not_le.mp h2), hh0.2.1 q (Nat.not_le.mp h2)], hh.2.2.1⟩
  exact vx_throwSW (names := ["java/lang/RuntimeException", "java/lang/Exception"]) hx hb hl hown hfit (by decide) (hts _ hcl) (hts _ hini) hsa (fun w hw => (hat w hw).elim (hts w) (hK.ng w))
    (fun w hw => by
      rcases List.mem_cons.mp hw with g | g
      · rw [g]; exact gT_ot hcl
      · rcases List.mem_cons.mp g with g | g
        · rw [g]; exact gT_ot hini
        · exact (hat w g).elim gT_ot (gNg_ot w)) (hU hK.2.1) (hU hK.2.2.1) hS hsize d0 d3 d4 d6 d9 (fun x hx => (hout x hx).elim) (by show 2 + 3 < _; omega) (by show 0 + (13 * (2 + 1) + 43) ≤ _; omega) (by omega) (by omega) hlocks
    (fun t _ hz hq => hX t hz hq) hh.2.2.1 hmc hms T hT X
end LGW
def spPY (L : List Int) (zc : zY) (k r : Int) (L' : List Int) (zc' : zY) : Prop := L' = L ∧ zc' = zc ∧ (k = 0 ∨ k = 1) ∧ r = r
theorem spPY_no2 {L : List Int} {zc : zY} {r : Int} {L' : List Int} {zc' : zY} (h : spPY L zc 2 r L' zc') : False := by
  obtain ⟨-, -, h | h, -⟩ := h <;> omega
