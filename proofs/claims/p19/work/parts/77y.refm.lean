/-! the reference's numbers -/
section FFV
variable {p : Program} {l : Launch} {e : Env} {R : Room} {s : State} {m : MethodId} {args : Array Value} {below : List Frame} {meth : Method} {c : Code} {H : Heap} {locs : List Loc} {cells slots : Nat} {Q : State → Prop} {cc : ByteArray} {pc : Nat} {ls : Array Slot} {rest : List Value}
theorem ff_ldivV {x y : Int64} (hx : p.tables.exec = Jvm.exec) (hb : c.code = cc) (hd : decode cc pc = .ok (.ldiv, 1)) (hp : 0 ≤ x.toInt) (h0 : 0 < y.toInt) (k : ∀ z : Int64, z.toInt = x.toInt / y.toInt ∧ 0 ≤ z.toInt ∧ z.toInt ≤ x.toInt → W p l e R s m args below meth c H locs cells slots Q (F0 m (pc + 1) ls (.long z :: rest))) : W p l e R s m args below meth c H locs cells slots Q (F0 m pc ls (.long y :: .long x :: rest)) := by
  refine ff_ldiv (n := y.toInt) hx hb hd rfl h0 (fun z ez => k z ?_)
  have e1 : z.toInt = x.toInt / y.toInt := by
    rcases ez with g | g
    · exact g.2
    · omega
  refine ⟨e1, ?_, ?_⟩
  · rw [e1]; exact Int.ediv_nonneg hp (by omega)
  · rw [e1]; exact Int.ediv_le_self _ hp
end FFV
theorem p10_le : ∀ k : Fin 15, (10 : Int) ^ k.val ≤ 100000000000000 ∧ 1 ≤ (10 : Int) ^ k.val := by decide
theorem p10_lt {k : Nat} (h : k ≤ 14) : (10 : Int) ^ k ≤ 100000000000000 ∧ 1 ≤ (10 : Int) ^ k := p10_le ⟨k, by omega⟩
theorem p10_dn (j : Nat) : (10 : Int) ^ (j + 1) / 10 = 10 ^ j := by rw [Int.pow_succ]; omega
