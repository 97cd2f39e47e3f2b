/-! zone(): a new thing in an array of things -/
section TZN
variable {p : Program} {l : Launch} {e : Env} {R : Room} {s : State} {m : MethodId} {args : Array Value} {below : List Frame} {meth : Method} {c : Code} {H : Heap} {locs : List Loc} {cells slots : Nat} {Q : State → Prop} {cc : ByteArray} {pc : Nat} {ls : Array Slot} {st : List Value}
variable {D : va_G} {cA : Nat → ClassId} {ro : Nat → Option Nat} {sz : Nat} {H0 : Heap}
theorem zh_f_eq {H H' : Heap} {a ci k : Nat} (h : H'[a]? = H[a]?) : zh_f D H' a ci k = zh_f D H a ci k := by unfold zh_f; rw [h]
theorem tz_aast {a v : Nat} {j : Int32} (hx : p.tables.exec = Jvm.exec) (hb : c.code = cc) (hK : zK0 D cA s) (hh : zh_ok D cA RTg ro sz H0 H locs) (ha : ro a = some 20) (hv : ro v = some 9) (h1 : 0 ≤ j.toInt) (h2 : j.toInt < 8) (hd : decode cc pc = .ok (.aastore, 1))
    (kk : ∀ (H' : Heap) (locs' : List Loc), zh_ok D cA RTg ro sz H0 H' locs' → (∀ q : Nat, q ≠ a → H'[q]? = H[q]?) → W p l e R s m args below meth c H' locs' cells slots Q (F0 m (pc + 1) ls st)) : W p l e R s m args below meth c H locs cells slots Q (F0 m pc ls (.ref v :: .int j :: .ref a :: st)) := by
  have hR20 : RTg[20]? = some (1, 4, 8, [(23, 0, 0)]) := rfl
  obtain ⟨hsa, z, c1, y1⟩ := zh_arr hh ha hR20
  obtain ⟨-, cellV, g1, g2, g3, -⟩ := zh_obj hh hv (show RTg[9]? = some (0, 9, 0, fsX10) from rfl)
  have hin := tz_in (N := 8) h1 h2
  have hlt : j.toNatClampNeg < 8 := Nat.not_le.mp fun q => hin (Or.inr q)
  have h0 : ¬ j < 0 := fun q => hin (Or.inl q)
  have hcls := (hK.1 9 _ rfl).2
  obtain ⟨kA, comp, k1, k2, k3, -⟩ := (hK.2 4 _ rfl).2
  have hcomp : comp = D.1 9 := Option.some.inj (k3.symm.trans hcls.1)
  subst hcomp
  obtain ⟨kC, hkC, -⟩ := hcls.2
  refine W.aast hx hb c1 (fun q h => by cases h) (fun h => by cases h) k1 k2 rfl hkC ⟨h0, by show _ < (arrV _ _ _).slots.size; rw [arrV_size]; exact hlt⟩ g1 (fun q h => by rw [g3] at h; cases h) (by rw [g2]; exact hkC) (by rw [g2]; exact va_assign hcls) rfl rfl hd fun H1 e2 z2 oq => ?_
  rw [arrV_store] at e2
  exact kk H1 _ (zh_setA hh ha hR20 z2 e2 oq (tz_upd y1 (Or.inr ⟨v, rfl, hv⟩)) (fun q hq => by
    rcases List.mem_append.mp hq with g | g
    · exact hh.2.2.1 q g
    · rw [List.mem_singleton.mp g]; exact hsa)) oq
theorem tz_new {own C : String} {T : u_T} {N ci idx : Nat} (hx : p.tables.exec = Jvm.exec) (hb : c.code = cc) (hh : zh_ok D cA RTg ro sz H0 H locs) (hts : ∀ w ∈ gT, w.before args s = true) (hin : ∀ w ∈ u_ws C T N, w ∈ gT) (ty : Nat → FieldType) (hty : ∀ k, k < N → parseFieldDescriptor (T k).2.2.1 = some (ty k)) (hown : s.vm.findClass own = some m.cls) (hcl : Cond.classLink own idx C ∈ gT) (hins : Cond.instantiable C N ∈ gT) (hini : Cond.initialized C ∈ gT) (hK : zK0 D cA s) (hci : vwCl[ci]? = some (C, T, N)) (hc : cells + 1 ≤ R.cells) (hs : slots + N ≤ R.slots) (hd : decode cc pc = .ok (.new idx, 3))
    (kk : ∀ (b : Nat) (H' : Heap), zh_ok D cA RTg ro sz H0 H' locs → ro b = none → sz ≤ b → b = H.size → H'.size = H.size + 1 → t_OB b (D.1 ci) N (D.2 ci) H' (fun k => defaultValue (ty k)) → (∀ q : Nat, q < H.size → H'[q]? = H[q]?) → W p l e R s m args below meth c H' locs (cells + 1) (slots + N) Q (F0 m (pc + 3) ls (.ref b :: st))) : W p l e R s m args below meth c H locs cells slots Q (F0 m pc ls st) := by
  have hKn := hK.1 ci _ hci
  refine W.newcK hx hb hown (hts _ hcl) (hts _ hins) (hts _ hini) (g := F0 m pc ls st) rfl hd hc hs hKn.2.1 (h := H.size) rfl (fun H' kC hkC e1 e2 e3 => ?_)
  exact kk H.size H' (zh_same hh (by omega) (fun q g _ => e3 q g) hh.2.2.1) (zo_none hh) hh.1 rfl e2 (u_born ty hts hin hKn hkC e1 hty) e3
end TZN
