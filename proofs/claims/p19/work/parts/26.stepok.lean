/-! a step of the checker is a step of the machine -/
theorem zc_row_kept {p : Program} {l : Launch} {e : Env} {R : Room} {s : State} {m : MethodId} {args : Array Value} {below : List Frame} {meth : Method} {c : Code} {cells slots : Nat} {Q : State → Prop} {D : va_G} {cA : Nat → ClassId} {RT : List zr_R} {ro : Nat → Option Nat} {sz : Nat} {H0 : Heap} {ms : List (Nat × Nat)} {nL pc pc' : Nat} {k : zc_C}
    (h : zc_row D cA RT ro sz H0 nL (fun pc H locs ls st => W p l e R s m args below meth c H locs cells slots Q (F0 m pc ls st)) pc pc' k) (hm : ∀ x ∈ k.2.2.2.1, x ∈ ms) : zc_row D cA RT ro sz H0 nL (zk_G p l e R s m args below meth c cells slots Q D RT ro ms) pc pc' k := by
  intro H locs ls st vs hz hwt hh hp kk hk
  refine h H locs ls st vs hz hwt hh hp (fun H' locs' x h1 h2 h3 => kk H' locs' x h1 h2 h3 ?_)
  refine ⟨?_, fun a r kd ti n fs g1 g2 g3 => (h2.2 a r kd ti n fs g1 g2 (fun q => g3 (hm _ q))).trans (hk.2 a r kd ti n fs g1 g2 g3)⟩
  intro a r j ci n fs g1 g2 g3 g4
  rw [h2.1 a r j ci n fs g1 g2 g3 (fun q => g4 (hm _ q)), hk.1 a r j ci n fs g1 g2 g3 g4]
section ZP
variable {p : Program} {l : Launch} {e : Env} {R : Room} {s : State} {m : MethodId} {args : Array Value} {below : List Frame} {meth : Method} {c : Code} {cells slots : Nat} {Q : State → Prop} {cc : ByteArray}
variable {D : va_G} {cA : Nat → ClassId} {ro : Nat → Option Nat} {sz : Nat} {H0 : Heap} {Ga : List Int} {zn : String} {K : zk_K}
/-- what the machine must give to a checker's tables -/
def zk_M (p : Program) (l : Launch) (e : Env) (R : Room) (s : State) (m : MethodId) (args : Array Value) (below : List Frame) (meth : Method) (c : Code) (cells slots : Nat) (Q : State → Prop) (cc : ByteArray) (D : va_G) (cA : Nat → ClassId) (ro : Nat → Option Nat) (sz : Nat) (H0 : Heap) (zn : String) (K : zk_K) : Prop :=
  p.tables.exec = Jvm.exec ∧ c.code = cc ∧ zD_ok D K.2.1 ∧ (∀ ti, ti < 5 → zAQ s cA ti (zk_ty zn ti)) ∧
  (∀ (idx r k ci n : Nat) (fs : List zt_T) (t : zt_T), (idx, r, k) ∈ K.2.2.1 → K.2.1[r]? = some (0, ci, n, fs) → fs[k]? = some t → zk_get s m args D idx ci k ∧ ((r, k) ∈ K.2.2.2.2.2.2.2.1 → zk_put s m args D ro idx ci k t)) ∧
  (∀ (idx : Nat) (n : Int), (idx, n) ∈ K.2.2.2.1 → ∃ (own : String) (x : Int32), s.vm.findClass own = some m.cls ∧ (Jvm.Cond.constant own idx x).before args s = true ∧ x.toInt = n) ∧
  (∀ (idx : Nat) (n : Int), (idx, n) ∈ K.2.2.2.2.1 → ∃ (own : String) (x : Int64), s.vm.findClass own = some m.cls ∧ (Jvm.Cond.constantLong own idx x).before args s = true ∧ x.toInt = n) ∧
  (∀ (idx : Nat) (t : zt_T), (idx, t) ∈ K.2.2.2.2.2.1 → ∀ pc, decode cc pc = .ok (.getstatic idx, 3) → ∀ H locs ls st, zh_ok D cA K.2.1 ro sz H0 H locs → ∃ x, zt_ok ro x t ∧ (W p l e R s m args below meth c H locs cells slots Q (F0 m (pc + 3) ls (x :: st)) → W p l e R s m args below meth c H locs cells slots Q (F0 m pc ls st))) ∧
  (∀ (idx : Nat) (k : zc_C), (idx, k) ∈ K.2.2.2.2.2.2.1 → ∀ (pc j : Nat) (i : Instr), (i = .invokestatic j ∧ idx = 4 * j) ∨ (i = .invokevirtual j ∧ idx = 4 * j + 1) ∨ (i = .invokespecial j ∧ idx = 4 * j + 2) → decode cc pc = .ok (i, 3) → zc_row D cA K.2.1 ro sz H0 K.1 (fun pc H locs ls st => W p l e R s m args below meth c H locs cells slots Q (F0 m pc ls st)) pc (pc + 3) k)
theorem zk_tc_ok {pc : Nat} {lo : Int} {q : zs_S} {f : zl_F} {G : Nat → zs_S → Prop} : ∀ {os : List Int} {j0 : Nat} {r : List (Nat × zs_S)}, zk_tc pc lo q f j0 os = some r → (∀ x ∈ r, G x.1 x.2) → ∀ (j : Nat) (o : Int), os[j]? = some o → ∃ tj : Nat, (pc : Int) + o = (tj : Int) ∧ G tj (zx_br .eq true q (zl_sub f (zl_k (lo + ((j0 + j : Nat) : Int)))))
  | [], _, _, _, _, j, o, hj => by simp at hj
  | o0 :: os, j0, r, h, hr, j, o, hj => by
    unfold zk_tc at h
    split at h
    · rename_i tj r' h1 h2
      cases h
      cases j with
      | zero =>
        simp at hj
        subst hj
        exact ⟨tj, zk_t_ok h1, hr _ List.mem_cons_self⟩
      | succ j =>
        obtain ⟨t, g1, g2⟩ := zk_tc_ok h2 (fun x hx => hr x (List.mem_cons_of_mem _ hx)) j o (by simpa using hj)
        exact ⟨t, g1, by rw [show j0 + (j + 1) = j0 + 1 + j by omega]; exact g2⟩
    · cases h
theorem zk_al_ok {k : zc_C} {q : zs_S} {w : List zv_V × List zv_V × List zv_V} {pc : Nat} {G : Nat → zs_S → Prop} : ∀ {als : List zc_A} {r : List (Nat × zs_S)}, zk_al k q w pc als = some r → (∀ x ∈ r, G x.1 x.2) → ∀ al ∈ als, ∃ q', zx_ca k al q w = some q' ∧ G pc q'
  | [], _, _, _, al, hal => by cases hal
  | a :: als, r, h, hr, al, hal => by
    unfold zk_al at h
    split at h
    · rename_i q' r' h1 h2
      cases h
      rcases List.mem_cons.mp hal with e | e
      · rw [e]; exact ⟨q', h1, hr _ List.mem_cons_self⟩
      · exact zk_al_ok h2 (fun x hx => hr x (List.mem_cons_of_mem _ hx)) al e
    · cases h
theorem zk_any {r k : Nat} {ms : List (Nat × Nat)} (h : ms.any (fun y => Nat.beq r y.1 && Nat.beq k y.2) = true) : (r, k) ∈ ms := by
  obtain ⟨y, h1, h2⟩ := List.any_eq_true.mp h
  rw [Bool.and_eq_true] at h2
  have e1 := Nat.eq_of_beq_eq_true h2.1
  have e2 := Nat.eq_of_beq_eq_true h2.2
  subst e1 e2
  exact h1
theorem zk_cl_ok {idx j pc : Nat} {q : zs_S} {L : List (Nat × zs_S)} {i : Instr} (hM : zk_M p l e R s m args below meth c cells slots Q cc D cA ro sz H0 zn K) (hi : (i = .invokestatic j ∧ idx = 4 * j) ∨ (i = .invokevirtual j ∧ idx = 4 * j + 1) ∨ (i = .invokespecial j ∧ idx = 4 * j + 2)) (hd : decode cc pc = .ok (i, 3)) (h : zk_cl K idx pc q = some L) (KK : ∀ x ∈ L, zw D cA K.2.1 ro sz H0 Ga K.1 (zk_G p l e R s m args below meth c cells slots Q D K.2.1 ro K.2.2.2.2.2.2.2.1) x.1 x.2) : zw D cA K.2.1 ro sz H0 Ga K.1 (zk_G p l e R s m args below meth c cells slots Q D K.2.1 ro K.2.2.2.2.2.2.2.1) pc q := by
  unfold zk_cl at h
  split at h
  · rename_i k hk
    split at h
    · rename_i w hw hp
      rw [Bool.and_eq_true] at hp
      refine zi_call (c := k) (zc_row_kept (hM.2.2.2.2.2.2.2.2 idx k (zk_a_mem hk) pc j i hi hd) (fun x hx => ?_)) hw hp.1 (zk_al_ok (G := zw D cA K.2.1 ro sz H0 Ga K.1 (zk_G p l e R s m args below meth c cells slots Q D K.2.1 ro K.2.2.2.2.2.2.2.1)) h KK)
      exact zk_any (List.all_eq_true.mp hp.2 x hx)
    · cases h
  · cases h
theorem zk_gf_ok {idx pc : Nat} {q : zs_S} {L : List (Nat × zs_S)} (hM : zk_M p l e R s m args below meth c cells slots Q cc D cA ro sz H0 zn K) (hd : decode cc pc = .ok (.getfield idx, 3)) (h : zk_gf K idx pc q = some L) (KK : ∀ x ∈ L, zw D cA K.2.1 ro sz H0 Ga K.1 (zk_G p l e R s m args below meth c cells slots Q D K.2.1 ro K.2.2.2.2.2.2.2.1) x.1 x.2) : zw D cA K.2.1 ro sz H0 Ga K.1 (zk_G p l e R s m args below meth c cells slots Q D K.2.1 ro K.2.2.2.2.2.2.2.1) pc q := by
  unfold zk_gf at h
  split at h
  · rename_i kz f S r k hS hg
    split at h
    · rename_i ci n fs i hr hi hk
      split at h
      · rename_i t ht
        split at h
        · rename_i h23
          cases h
          have hk := Nat.eq_of_beq_eq_true hk
          subst hk
          simp only [Bool.or_eq_false_iff] at h23
          exact zm_getf hM.1 hM.2.1 hS hi hr ht (fun q => by rw [q] at h23; exact absurd h23.1 (by decide)) (fun q => by rw [q] at h23; exact absurd h23.2 (by decide)) (hM.2.2.2.2.1 idx r k ci n fs t (zk_a_mem hg) hr ht).1 hd (KK _ List.mem_cons_self)
        · cases h
      · cases h
    · cases h
  · cases h
theorem zk_pf_ok {idx pc : Nat} {q : zs_S} {L : List (Nat × zs_S)} (hM : zk_M p l e R s m args below meth c cells slots Q cc D cA ro sz H0 zn K) (hd : decode cc pc = .ok (.putfield idx, 3)) (h : zk_pf K idx pc q = some L) (KK : ∀ x ∈ L, zw D cA K.2.1 ro sz H0 Ga K.1 (zk_G p l e R s m args below meth c cells slots Q D K.2.1 ro K.2.2.2.2.2.2.2.1) x.1 x.2) : zw D cA K.2.1 ro sz H0 Ga K.1 (zk_G p l e R s m args below meth c cells slots Q D K.2.1 ro K.2.2.2.2.2.2.2.1) pc q := by
  unfold zk_pf at h
  split at h
  · rename_i z kz f S r k hS hg
    split at h
    · rename_i ci n fs i hr hi hk
      split at h
      · rename_i t ht
        split at h
        · rename_i hty
          cases h
          rw [Bool.and_eq_true] at hk
          have hk1 := Nat.eq_of_beq_eq_true hk.1
          have hk2 := zk_any hk.2
          subst hk1
          exact zm_putf hM.1 hM.2.1 hS hi hr ht hM.2.2.1 hty hk2 ((hM.2.2.2.2.1 idx r k ci n fs t (zk_a_mem hg) hr ht).2 hk2) hd (KK _ List.mem_cons_self)
        · cases h
      · cases h
    · cases h
  · cases h
end ZP
