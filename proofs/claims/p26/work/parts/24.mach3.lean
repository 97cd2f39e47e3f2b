/-! the machine's instructions: locals that count, null tests, switches, fields, arrays, constants -/
def zx_ii (i : Nat) (n : Int) (f : zl_F) (q : zs_S) : zs_S := match zx_in q (-2147483648) 2147483647 (zl_add f (zl_k n)) with
  | true => zq_LS q (zx_put q.2.2.1 i (0, zl_add f (zl_k n))) q.2.2.2.1
  | false => zq_LS (zs_new q (-2147483648) 2147483647) (zx_put q.2.2.1 i (0, zl_id q.1.length)) q.2.2.2.1
theorem zx_put_wf {n i : Nat} {z : zv_V} {L : List (Nat × zv_V)} (hz : zv_wf n z) (hL : ∀ e ∈ L, zv_wf n e.2) : ∀ e ∈ zx_put L i z, zv_wf n e.2 := by
  intro e he
  rcases List.mem_cons.mp he with e' | e'
  · rw [e']; exact hz
  · exact hL e (List.mem_filter.mp e').1
theorem zx_put_ok {ro : Nat → Option Nat} {v : Nat → Int} {i : Nat} {x : Value} {z : zv_V} {L : List (Nat × zv_V)} {lv lv' : List (Nat × Value)} (hL : ∀ e ∈ L, ∃ x : Value, (e.1, x) ∈ lv ∧ zv_ok ro v x e.2) (hz : zv_ok ro v x z) (h2 : (i, x) ∈ lv') (h3 : ∀ j y, (j, y) ∈ lv → ¬ j = i → ¬ (j = i + 1 ∧ z.1 = 1) → ¬ (j + 1 = i ∧ y.category = 2) → (j, y) ∈ lv') :
    ∀ e ∈ zx_put L i z, ∃ x : Value, (e.1, x) ∈ lv' ∧ zv_ok ro v x e.2 := by
  intro e he
  rcases List.mem_cons.mp he with e' | e'
  · rw [e']; exact ⟨x, h2, hz⟩
  · obtain ⟨m1, m2⟩ := List.mem_filter.mp e'
    obtain ⟨y, y1, y2⟩ := hL e m1
    simp only [Bool.and_eq_true, Bool.not_eq_true', Bool.and_eq_false_iff] at m2
    obtain ⟨⟨m3, m4⟩, m5⟩ := m2
    refine ⟨y, h3 _ _ y1 (fun g => ?_) (fun g => ?_) (fun g => ?_), y2⟩
    · rw [g, Nat.beq_refl] at m3; cases m3
    · rw [g.1, g.2, Nat.beq_refl, Nat.beq_refl] at m4; rcases m4 with m | m <;> cases m
    · rw [g.1, Nat.beq_refl] at m5
      have c := zv_cat y2
      rw [g.2] at c
      by_cases k : e.2.1 = 1
      · rw [k, Nat.beq_refl] at m5; rcases m5 with m | m <;> cases m
      · rw [if_neg k] at c; cases c
/-- the classes of arrays: of what is made, and of what was there -/
def zAQ (s : State) (cA : Nat → ClassId) (ti : Nat) (ty : FieldType) : Prop := ArrOfT s (cA ti) ty ∧ ∀ u : Nat, u < 3 → ArrOfT s (cA (ti + 10 * u)) ty
theorem zAQ.of {s : State} {cA : Nat → ClassId} {ti n : Nat} {ty : FieldType} {cell : Cell} (hA : zAQ s cA ti ty) (hc : zh_ca cA ti n cell) : s.isArrayOf cell ty := by
  obtain ⟨⟨u, hu, h1⟩, -, h3, -⟩ := hc
  obtain ⟨-, k, h4, h5⟩ := hA.2 u hu 0 (fun _ => .null)
  exact ⟨h3, k, by rw [h1]; exact h4, h5⟩
theorem zk_kept_put {D : va_G} {RT : List zr_R} {ro : Nat → Option Nat} {ms : List (Nat × Nat)} {Hi H H' : Heap} {a r k ci n : Nat} {fs : List zt_T} {cell : Cell} {x : Value} (hD : zD_ok D RT) (hr : RT[r]? = some (0, ci, n, fs)) (hk : k < fs.length) (hm : (r, k) ∈ ms) (ha : ro a = some r) (hc : H[a]? = some cell) (e1 : H'[a]? = some (cell.setSlot (D.2 ci k) x)) (e3 : ∀ q, q ≠ a → H'[q]? = H[q]?) (h : zc_kept D RT ro ms Hi H) : zc_kept D RT ro ms Hi H' := by
  refine ⟨?_, fun a' r' kd' ti' n' fs' h1 h2 h3 => (e3 a' (fun q => by
    subst q
    cases h1.symm.trans ha
    cases h2.symm.trans hr)).trans (h.2 a' r' kd' ti' n' fs' h1 h2 h3)⟩
  intro a' r' k' ci' n' fs' h1 h2 h3 h4
  rw [← h.1 a' r' k' ci' n' fs' h1 h2 h3 h4]
  by_cases ea : a' = a
  · subst ea
    cases h1.symm.trans ha
    cases h2.symm.trans hr
    have hne : D.2 ci k ≠ D.2 ci k' := fun q => h4 (by rw [← hD r ci n fs hr k k' hk h3 q]; exact hm)
    simp only [zh_f, e1, hc, slot_ne _ _ hne]
  · simp only [zh_f, e3 a' ea]
theorem zk_kept_arr {D : va_G} {RT : List zr_R} {ro : Nat → Option Nat} {ms : List (Nat × Nat)} {Hi H H' : Heap} {a r kd ti n : Nat} {fs : List zt_T} (hr : RT[r]? = some (kd + 1, ti, n, fs)) (hm : (r, 0) ∈ ms) (ha : ro a = some r) (e3 : ∀ q, q ≠ a → H'[q]? = H[q]?) (h : zc_kept D RT ro ms Hi H) : zc_kept D RT ro ms Hi H' := by
  refine ⟨?_, fun a' r' kd' ti' n' fs' h1 h2 h3 => (e3 a' (fun q => by
    subst q
    cases h1.symm.trans ha
    exact h3 hm)).trans (h.2 a' r' kd' ti' n' fs' h1 h2 h3)⟩
  intro a' r' k' ci' n' fs' h1 h2 h3 h4
  rw [← h.1 a' r' k' ci' n' fs' h1 h2 h3 h4]
  have ea : a' ≠ a := fun q => by
    subst q
    cases h1.symm.trans ha
    cases h2.symm.trans hr
  simp only [zh_f, e3 a' ea]
/-- the field of a pool number: its slot -/
def zk_get (s : State) (m : MethodId) (args : Array Value) (D : va_G) (idx ci k : Nat) : Prop := ∃ (own ref name desc : String) (f : Field), Fd s m args own ref name desc idx f ∧ f.slot = D.2 ci k
def zk_put (s : State) (m : MethodId) (args : Array Value) (D : va_G) (ro : Nat → Option Nat) (idx ci k : Nat) (t : zt_T) : Prop := ∃ (own ref name desc : String) (f : Field), Fd s m args own ref name desc idx f ∧ f.slot = D.2 ci k ∧ ∀ x : Value, zt_ok ro x t → k2_Sd s f (D.1 ci) x
section ZO
variable {p : Program} {l : Launch} {e : Env} {R : Room} {s : State} {m : MethodId} {args : Array Value} {below : List Frame} {meth : Method} {c : Code} {cells slots : Nat} {Q : State → Prop} {cc : ByteArray}
variable {D : va_G} {cA : Nat → ClassId} {RT : List zr_R} {ro : Nat → Option Nat} {sz : Nat} {H0 : Heap} {Ga : List Int} {nL : Nat} {ms : List (Nat × Nat)} {pc : Nat} {q : zs_S} {S : List zv_V} {fa fb : zl_F}
theorem zm_iinc (hx : p.tables.exec = Jvm.exec) (hb : c.code = cc) {i : Nat} {n : Int} {f : zl_F} (hz : zx_get q.2.2.1 i = some (0, f)) (h1 : -128 ≤ n) (h2 : n ≤ 127) (hn : i < nL) (hd : decode cc pc = .ok (.iinc i n, 3)) (K : zw D cA RT ro sz H0 Ga nL (zk_G p l e R s m args below meth c cells slots Q D RT ro ms) (pc + 3) (zx_ii i n f q)) : zw D cA RT ro sz H0 Ga nL (zk_G p l e R s m args below meth c cells slots Q D RT ro ms) pc q :=
  by
  intro hw v H locs ls st h hh hk
  have hm := zx_get_mem hz
  obtain ⟨hB, hC, ⟨lv, hlv, hL⟩, hst, hF⟩ := id h
  obtain ⟨x0, hx0, hok⟩ := hL _ hm
  obtain ⟨x, rfl, ex⟩ := hok
  have wf := hw.2.1 _ hm
  dsimp only at ex wf
  obtain ⟨j, hj⟩ := List.mem_iff_getElem?.mp hx0
  refine lv_iinc (k := j) hx hb hd hlv hj rfl hn rfl (fun ls' h' => ?_)
  have hin : (i, Value.int (x + Int32.ofInt n)) ∈ (i, Value.int (x + Int32.ofInt n)) :: lv.filter (fun q => !(q.1 == i) && !(q.1 + 1 == i && q.2.category == 2)) := List.mem_cons_self
  unfold zx_ii at K
  split at K
  · rename_i hi
    have g := zx_in_ok h hi
    rw [zl_add_at, zl_k_at] at g
    have e1 : (x + Int32.ofInt n).toInt = zl_at v (zl_add f (zl_k n)) := by
      rw [zl_add_at, zl_k_at, zn_add (by rw [zn_ib h1 h2]; omega) (by rw [zn_ib h1 h2]; omega), zn_ib h1 h2, ex]
    exact K ⟨hw.1, zx_put_wf (zl_add_wf wf zl_k_wf) hw.2.1, hw.2.2.1, hw.2.2.2⟩ v H locs ls' st ⟨hB, hC, ⟨_, h', zx_put_ok (z := (0, zl_add f (zl_k n))) hL ⟨_, rfl, e1⟩ hin (zm_keep1 (show (0 : Nat) ≠ 1 by decide))⟩, hst, hF⟩ hh hk
  · have hnw := zs_new_wf (lo := -2147483648) (hi := 2147483647) hw
    have hno := zs_new_ok hw h (Or.inr (zn_i32 (x + Int32.ofInt n)))
    obtain ⟨kB, kC, ⟨lv2, hlv2, kL⟩, kst, kF⟩ := hno
    have el : (zs_new q (-2147483648) 2147483647).1.length = q.1.length + 1 := by simp [zs_new]
    have hL2 : ∀ e ∈ q.2.2.1, ∃ y : Value, (e.1, y) ∈ lv ∧ zv_ok ro (zl_up v q.1.length (x + Int32.ofInt n).toInt) y e.2 := fun e he => by
      obtain ⟨y, y1, y2⟩ := hL e he
      exact ⟨y, y1, zv_ok.up (hw.2.1 e he) y2⟩
    refine K ⟨hnw.1, zx_put_wf ?_ hnw.2.1, hnw.2.2.1, hnw.2.2.2⟩ (zl_up v q.1.length (x + Int32.ofInt n).toInt) H locs ls' st ⟨kB, kC, ⟨_, h', zx_put_ok (z := (0, zl_id q.1.length)) hL2 ⟨_, rfl, ?_⟩ hin (zm_keep1 (show (0 : Nat) ≠ 1 by decide))⟩, kst, kF⟩ hh hk
    · show zl_wf (zs_new q (-2147483648) 2147483647).1.length (zl_id q.1.length)
      exact zl_id_wf (by omega)
    · rw [zl_id_at]; simp [zl_up]

theorem zm_ifnull (hx : p.tables.exec = Jvm.exec) (hb : c.code = cc) {off : Int} {tgt r : Nat} {f : zl_F} (hS : q.2.2.2.1 = (5 + 2 * r, f) :: S) (ht : (pc : Int) + off = (tgt : Int)) (hd : decode cc pc = .ok (.ifnull off, 3)) (Kn : zw D cA RT ro sz H0 Ga nL (zk_G p l e R s m args below meth c cells slots Q D RT ro ms) tgt (zq_S q S)) (Kr : zw D cA RT ro sz H0 Ga nL (zk_G p l e R s m args below meth c cells slots Q D RT ro ms) (pc + 3) (zx_nN r f q S)) : zw D cA RT ro sz H0 Ga nL (zk_G p l e R s m args below meth c cells slots Q D RT ro ms) pc q :=
  zi_nul hS (fun _ _ _ _ k hk => lv_ifnullN hx hb hd ht (k hk)) (fun _ _ _ _ _ k hk => lv_ifnull hx hb hd (k hk)) Kn Kr

theorem zm_ifnonnull (hx : p.tables.exec = Jvm.exec) (hb : c.code = cc) {off : Int} {tgt r : Nat} {f : zl_F} (hS : q.2.2.2.1 = (5 + 2 * r, f) :: S) (ht : (pc : Int) + off = (tgt : Int)) (hd : decode cc pc = .ok (.ifnonnull off, 3)) (Kn : zw D cA RT ro sz H0 Ga nL (zk_G p l e R s m args below meth c cells slots Q D RT ro ms) (pc + 3) (zq_S q S)) (Kr : zw D cA RT ro sz H0 Ga nL (zk_G p l e R s m args below meth c cells slots Q D RT ro ms) tgt (zx_nN r f q S)) : zw D cA RT ro sz H0 Ga nL (zk_G p l e R s m args below meth c cells slots Q D RT ro ms) pc q :=
  zi_nul hS (fun _ _ _ _ k hk => lv_ifnonnullN hx hb hd (k hk)) (fun _ _ _ _ _ k hk => lv_ifnonnull hx hb hd ht (k hk)) Kn Kr

theorem zm_tsw (hx : p.tables.exec = Jvm.exec) (hb : c.code = cc) {dflt lo hi : Int} {offs : Array Int} {len tg : Nat} {f : zl_F} (hS : q.2.2.2.1 = (0, f) :: S) (ho : (offs.size : Int) = hi - lo + 1) (ht : (pc : Int) + dflt = (tg : Int)) (hd : decode cc pc = .ok (.tableswitch dflt lo hi offs, len)) (Kl : zw D cA RT ro sz H0 Ga nL (zk_G p l e R s m args below meth c cells slots Q D RT ro ms) tg (zx_as (zq_S q S) (zl_sub f (zl_k (lo - 1))))) (Kh : zw D cA RT ro sz H0 Ga nL (zk_G p l e R s m args below meth c cells slots Q D RT ro ms) tg (zx_as (zq_S q S) (zl_sub (zl_k (hi + 1)) f))) (K : ∀ j : Nat, j < offs.size → ∃ tj : Nat, ∀ o, offs[j]? = some o → (pc : Int) + o = (tj : Int) ∧ zw D cA RT ro sz H0 Ga nL (zk_G p l e R s m args below meth c cells slots Q D RT ro ms) tj (zx_br .eq true (zq_S q S) (zl_sub f (zl_k (lo + j))))) : zw D cA RT ro sz H0 Ga nL (zk_G p l e R s m args below meth c cells slots Q D RT ro ms) pc q :=
  by
  intro hw v H locs ls st h hh hk
  have hst := h.2.2.2.1
  rw [hS] at hst
  match st, hst with
  | x :: st, hst =>
    have wS : ∀ z ∈ S, zv_wf q.1.length z := fun z hz => hw.2.2.1 z (by rw [hS]; exact List.mem_cons_of_mem _ hz)
    have wz : zl_wf q.1.length f := hw.2.2.1 (0, f) (by rw [hS]; exact List.mem_cons_self)
    have hq := zq_S_ok h hst.2
    have hqw := zq_S_wf hw wS
    obtain ⟨y, rfl, ey⟩ := hst.1
    dsimp only at ey
    by_cases h1 : y.toInt < lo
    · exact lv_tableOut hx hb hd (Or.inl h1) ht (Kl (zx_as_wf hqw (zl_sub_wf wz zl_k_wf)) v H locs ls st (zx_as_ok hq (by rw [zl_sub_at, zl_k_at]; omega)) hh hk)
    · by_cases h2 : hi < y.toInt
      · exact lv_tableOut hx hb hd (Or.inr h2) ht (Kh (zx_as_wf hqw (zl_sub_wf zl_k_wf wz)) v H locs ls st (zx_as_ok hq (by rw [zl_sub_at, zl_k_at]; omega)) hh hk)
      · have hj : (y.toInt - lo).toNat < offs.size := by omega
        obtain ⟨tj, htj⟩ := K _ hj
        obtain ⟨g1, g2⟩ := htj offs[(y.toInt - lo).toNat] (Array.getElem?_eq_getElem hj)
        refine lv_tableIn hx hb hd h1 h2 (Array.getElem?_eq_getElem hj) g1 (g2 (zx_br_wf _ _ hqw (zl_sub_wf wz zl_k_wf)) v H locs ls st (zx_br_ok _ _ hq ⟨fun _ => ?_, fun _ => rfl⟩) hh hk)
        show zl_at v (zl_sub f (zl_k (lo + ((y.toInt - lo).toNat : Nat)))) = 0
        rw [zl_sub_at, zl_k_at]; omega

theorem zm_getf (hx : p.tables.exec = Jvm.exec) (hb : c.code = cc) {idx r k ci n i : Nat} {fs : List zt_T} {t : zt_T} {f : zl_F} (hS : q.2.2.2.1 = (4 + 2 * r, f) :: S) (hi : zx_un f = some i) (hr : RT[r]? = some (0, ci, n, fs)) (hk0 : fs[k]? = some t) (h2 : t.1 ≠ 2) (h3 : t.1 ≠ 3) (hg : zk_get s m args D idx ci k) (hd : decode cc pc = .ok (.getfield idx, 3)) (K : zw D cA RT ro sz H0 Ga nL (zk_G p l e R s m args below meth c cells slots Q D RT ro ms) (pc + 3) (zx_gf r k t q i S)) : zw D cA RT ro sz H0 Ga nL (zk_G p l e R s m args below meth c cells slots Q D RT ro ms) pc q :=
  zi_getf hS hi hr hk0 h2 h3 (fun H locs ls st a x cell c1 c2 c3 c4 k hk => by
    obtain ⟨own, ref, name, desc, f, ⟨f1, f2, ⟨cf, kf, i, f3⟩, f4⟩, f5⟩ := hg
    exact W.getf hx hb f1 f2 f3 f4 c1 (by rw [c3]; exact fun h => by cases h) (by rw [f5]; exact c4) rfl rfl hd (k hk)) K

theorem zm_putf (hx : p.tables.exec = Jvm.exec) (hb : c.code = cc) {idx r k ci n i : Nat} {fs : List zt_T} {t : zt_T} {f : zl_F} {z : zv_V} (hS : q.2.2.2.1 = z :: (4 + 2 * r, f) :: S) (hi : zx_un f = some i) (hr : RT[r]? = some (0, ci, n, fs)) (hk0 : fs[k]? = some t) (hD : zD_ok D RT) (ht : zx_ty q z t = true) (hm : (r, k) ∈ ms) (hg : zk_put s m args D ro idx ci k t) (hd : decode cc pc = .ok (.putfield idx, 3)) (K : zw D cA RT ro sz H0 Ga nL (zk_G p l e R s m args below meth c cells slots Q D RT ro ms) (pc + 3) (zx_pf r k q i z S)) : zw D cA RT ro sz H0 Ga nL (zk_G p l e R s m args below meth c cells slots Q D RT ro ms) pc q :=
  zi_putf hS hi hr hk0 hD ht (fun H locs ls st a x cell y ha hx0 c1 c2 c3 c4 kk hk => by
    obtain ⟨own, ref, name, desc, f, f1, f5, f6⟩ := hg
    refine W.putK hx hb f1 (by rw [c2]; exact f6 x hx0) c1 c3 (by rw [f5]; exact (Array.getElem?_eq_some_iff.mp c4).1) rfl rfl hd (fun H' e1 e2 e3 => ?_)
    rw [f5] at e1 ⊢
    exact kk H' e1 e2 e3 (zk_kept_put hD hr (List.getElem?_eq_some_iff.mp hk0).1 hm ha c1 e1 e3 hk)) K

theorem zm_alen (hx : p.tables.exec = Jvm.exec) (hb : c.code = cc) {r kd ti n : Nat} {t : zt_T} {f : zl_F} {ty : FieldType} (hA : zAQ s cA ti ty) (hS : q.2.2.2.1 = (4 + 2 * r, f) :: S) (hr : RT[r]? = some (kd + 1, ti, n, [t])) (hn : n < 2147483648) (hd : decode cc pc = .ok (.arraylength, 1)) (K : zw D cA RT ro sz H0 Ga nL (zk_G p l e R s m args below meth c cells slots Q D RT ro ms) (pc + 1) (zq_S q ((0, zl_k n) :: S))) : zw D cA RT ro sz H0 Ga nL (zk_G p l e R s m args below meth c cells slots Q D RT ro ms) pc q :=
  zi_alen hS hr hn (fun H locs ls st a cell c1 hc k hk => W.alen (n := nI n) hx hb c1 (zAQ.of hA hc) hc.2.2.2.2 rfl rfl hd (k hk)) K

theorem zm_iald (hx : p.tables.exec = Jvm.exec) (hb : c.code = cc) {r kd ti n : Nat} {t : zt_T} {f g : zl_F} (hA : zAQ s cA ti .int) (hS : q.2.2.2.1 = (0, g) :: (4 + 2 * r, f) :: S) (hr : RT[r]? = some (kd + 1, ti, n, [t])) (hin : zx_in q 0 ((n : Int) - 1) g = true) (h2 : t.1 ≠ 2) (h3 : t.1 ≠ 3) (hd : decode cc pc = .ok (.iaload, 1)) (K : zw D cA RT ro sz H0 Ga nL (zk_G p l e R s m args below meth c cells slots Q D RT ro ms) (pc + 1) (zx_ft t q S)) : zw D cA RT ro sz H0 Ga nL (zk_G p l e R s m args below meth c cells slots Q D RT ro ms) pc q :=
  zi_ald hS hr hin h2 h3 (fun H locs ls st a cell x j hv _ c1 hc hr0 k hk => W.iald hx hb c1 (zAQ.of hA hc) hc.2.1 hv hr0 rfl rfl hd (k hk)) K

theorem zm_lald (hx : p.tables.exec = Jvm.exec) (hb : c.code = cc) {r kd ti n : Nat} {t : zt_T} {f g : zl_F} (hA : zAQ s cA ti .long) (hS : q.2.2.2.1 = (0, g) :: (4 + 2 * r, f) :: S) (hr : RT[r]? = some (kd + 1, ti, n, [t])) (hin : zx_in q 0 ((n : Int) - 1) g = true) (h2 : t.1 ≠ 2) (h3 : t.1 ≠ 3) (hd : decode cc pc = .ok (.laload, 1)) (K : zw D cA RT ro sz H0 Ga nL (zk_G p l e R s m args below meth c cells slots Q D RT ro ms) (pc + 1) (zx_ft t q S)) : zw D cA RT ro sz H0 Ga nL (zk_G p l e R s m args below meth c cells slots Q D RT ro ms) pc q :=
  zi_ald hS hr hin h2 h3 (fun H locs ls st a cell x j hv _ c1 hc hr0 k hk => W.lald hx hb c1 (zAQ.of hA hc) hc.2.1 hv hr0 rfl rfl hd (k hk)) K

theorem zm_bald (hx : p.tables.exec = Jvm.exec) (hb : c.code = cc) {r kd ti n : Nat} {t : zt_T} {f g : zl_F} (hA : zAQ s cA ti .byte) (hS : q.2.2.2.1 = (0, g) :: (4 + 2 * r, f) :: S) (hr : RT[r]? = some (kd + 1, ti, n, [t])) (hin : zx_in q 0 ((n : Int) - 1) g = true) (h2 : t.1 ≠ 2) (h3 : t.1 ≠ 3) (hd : decode cc pc = .ok (.baload, 1)) (K : zw D cA RT ro sz H0 Ga nL (zk_G p l e R s m args below meth c cells slots Q D RT ro ms) (pc + 1) (zx_ft t q S)) : zw D cA RT ro sz H0 Ga nL (zk_G p l e R s m args below meth c cells slots Q D RT ro ms) pc q :=
  zi_ald hS hr hin h2 h3 (fun H locs ls st a cell x j hv _ c1 hc hr0 k hk => W.bald hx hb c1 (zAQ.of hA hc) hc.2.1 hv hr0 rfl rfl hd (k hk)) K

theorem zm_cald (hx : p.tables.exec = Jvm.exec) (hb : c.code = cc) {r kd ti n : Nat} {t : zt_T} {f g : zl_F} (hA : zAQ s cA ti .char) (hS : q.2.2.2.1 = (0, g) :: (4 + 2 * r, f) :: S) (hr : RT[r]? = some (kd + 1, ti, n, [t])) (hin : zx_in q 0 ((n : Int) - 1) g = true) (h2 : t.1 ≠ 2) (h3 : t.1 ≠ 3) (hd : decode cc pc = .ok (.caload, 1)) (K : zw D cA RT ro sz H0 Ga nL (zk_G p l e R s m args below meth c cells slots Q D RT ro ms) (pc + 1) (zx_ft t q S)) : zw D cA RT ro sz H0 Ga nL (zk_G p l e R s m args below meth c cells slots Q D RT ro ms) pc q :=
  zi_ald hS hr hin h2 h3 (fun H locs ls st a cell x j hv _ c1 hc hr0 k hk => W.cald hx hb c1 (zAQ.of hA hc) hc.2.1 hv hr0 rfl rfl hd (k hk)) K

theorem zm_aald (hx : p.tables.exec = Jvm.exec) (hb : c.code = cc) {r kd ti n : Nat} {t : zt_T} {f g : zl_F} {ty : FieldType} (hA : zAQ s cA ti ty) (hty : ty.isReference = true) (hS : q.2.2.2.1 = (0, g) :: (4 + 2 * r, f) :: S) (hr : RT[r]? = some (kd + 1, ti, n, [t])) (hin : zx_in q 0 ((n : Int) - 1) g = true) (h2 : t.1 ≠ 2) (h3 : t.1 ≠ 3) (hd : decode cc pc = .ok (.aaload, 1)) (K : zw D cA RT ro sz H0 Ga nL (zk_G p l e R s m args below meth c cells slots Q D RT ro ms) (pc + 1) (zx_ft t q S)) : zw D cA RT ro sz H0 Ga nL (zk_G p l e R s m args below meth c cells slots Q D RT ro ms) pc q :=
  zi_ald hS hr hin h2 h3 (fun H locs ls st a cell x j hv _ c1 hc hr0 k hk => W.aald hx hb c1 (zAQ.of hA hc) hty hc.2.1 hv hr0 rfl rfl hd (k hk)) K

theorem zm_iast (hx : p.tables.exec = Jvm.exec) (hb : c.code = cc) {r ti n : Nat} {lo hi : Int} {f g : zl_F} {zx : zv_V} (hA : ArrOfT s (cA ti) .int) (hS : q.2.2.2.1 = zx :: (0, g) :: (4 + 2 * r, f) :: S) (hr : RT[r]? = some (1, ti, n, [(0, lo, hi)])) (hm : (r, 0) ∈ ms) (hin : zx_in q 0 ((n : Int) - 1) g = true) (ht : zx_ty q zx (0, lo, hi) = true) (hd : decode cc pc = .ok (.iastore, 1)) (K : zw D cA RT ro sz H0 Ga nL (zk_G p l e R s m args below meth c cells slots Q D RT ro ms) (pc + 1) (zq_S q S)) : zw D cA RT ro sz H0 Ga nL (zk_G p l e R s m args below meth c cells slots Q D RT ro ms) pc q :=
  zi_ast hS hr hin ht (fun H locs ls st a z j x ha hv hx0 c1 kk hk => by
    obtain ⟨y, rfl, -, -⟩ := hx0
    refine W.iast hx hb c1 (hA n z) (fun h => by cases h) (by rw [arrV_size]; exact hv) rfl rfl hd (fun H' e1 e2 e3 => ?_)
    rw [arrV_store] at e1
    exact kk H' e1 e2 e3 (zk_kept_arr hr hm ha e3 hk)) K

theorem zm_last (hx : p.tables.exec = Jvm.exec) (hb : c.code = cc) {r ti n : Nat} {lo hi : Int} {f g : zl_F} {zx : zv_V} (hA : ArrOfT s (cA ti) .long) (hS : q.2.2.2.1 = zx :: (0, g) :: (4 + 2 * r, f) :: S) (hr : RT[r]? = some (1, ti, n, [(1, lo, hi)])) (hm : (r, 0) ∈ ms) (hin : zx_in q 0 ((n : Int) - 1) g = true) (ht : zx_ty q zx (1, lo, hi) = true) (hd : decode cc pc = .ok (.lastore, 1)) (K : zw D cA RT ro sz H0 Ga nL (zk_G p l e R s m args below meth c cells slots Q D RT ro ms) (pc + 1) (zq_S q S)) : zw D cA RT ro sz H0 Ga nL (zk_G p l e R s m args below meth c cells slots Q D RT ro ms) pc q :=
  zi_ast hS hr hin ht (fun H locs ls st a z j x ha hv hx0 c1 kk hk => by
    obtain ⟨y, rfl, -, -⟩ := hx0
    refine W.last hx hb c1 (hA n z) (fun h => by cases h) (by rw [arrV_size]; exact hv) rfl rfl hd (fun H' e1 e2 e3 => ?_)
    rw [arrV_store] at e1
    exact kk H' e1 e2 e3 (zk_kept_arr hr hm ha e3 hk)) K

theorem zm_bast (hx : p.tables.exec = Jvm.exec) (hb : c.code = cc) {r ti n : Nat} {lo hi : Int} {f g : zl_F} {zx : zv_V} (hA : ArrOfT s (cA ti) .byte) (hlo : -128 ≤ lo) (hhi : hi ≤ 127) (hS : q.2.2.2.1 = zx :: (0, g) :: (4 + 2 * r, f) :: S) (hr : RT[r]? = some (1, ti, n, [(0, lo, hi)])) (hm : (r, 0) ∈ ms) (hin : zx_in q 0 ((n : Int) - 1) g = true) (ht : zx_ty q zx (0, lo, hi) = true) (hd : decode cc pc = .ok (.bastore, 1)) (K : zw D cA RT ro sz H0 Ga nL (zk_G p l e R s m args below meth c cells slots Q D RT ro ms) (pc + 1) (zq_S q S)) : zw D cA RT ro sz H0 Ga nL (zk_G p l e R s m args below meth c cells slots Q D RT ro ms) pc q :=
  zi_ast hS hr hin ht (fun H locs ls st a z j x ha hv hx0 c1 kk hk => by
    obtain ⟨y, rfl, y1, y2⟩ := hx0
    dsimp only at y1 y2
    have hnar : narrow .byte (.int y) = .int y := by
      rw [narrow_byte]
      exact congrArg Value.int (Int32.toInt_inj.mp (zn_ibx (by omega) (by omega)))
    refine W.bast hx hb c1 (hA n z) (fun h => by cases h) (by rw [arrV_size]; exact hv) rfl rfl hd (fun H' e1 e2 e3 => ?_)
    rw [hnar, arrV_store] at e1
    exact kk H' e1 e2 e3 (zk_kept_arr hr hm ha e3 hk)) K

theorem zm_ldc (hx : p.tables.exec = Jvm.exec) (hb : c.code = cc) {own : String} {idx : Nat} {x : Int32} {n : Int} (hown : s.vm.findClass own = some m.cls) (hc : (Jvm.Cond.constant own idx x).before args s = true) (hn : x.toInt = n) (hd : decode cc pc = .ok (.ldc idx, 2)) (K : zw D cA RT ro sz H0 Ga nL (zk_G p l e R s m args below meth c cells slots Q D RT ro ms) (pc + 2) (zq_S q ((0, zl_k n) :: q.2.2.2.1))) : zw D cA RT ro sz H0 Ga nL (zk_G p l e R s m args below meth c cells slots Q D RT ro ms) pc q :=
  zi_const (Or.inl ⟨rfl, x, rfl, hn⟩) (fun _ _ _ _ k hk => lv_ldc hx hb hown hc hd (k hk)) K

theorem zm_ldcw (hx : p.tables.exec = Jvm.exec) (hb : c.code = cc) {own : String} {idx : Nat} {x : Int32} {n : Int} (hown : s.vm.findClass own = some m.cls) (hc : (Jvm.Cond.constant own idx x).before args s = true) (hn : x.toInt = n) (hd : decode cc pc = .ok (.ldc_w idx, 3)) (K : zw D cA RT ro sz H0 Ga nL (zk_G p l e R s m args below meth c cells slots Q D RT ro ms) (pc + 3) (zq_S q ((0, zl_k n) :: q.2.2.2.1))) : zw D cA RT ro sz H0 Ga nL (zk_G p l e R s m args below meth c cells slots Q D RT ro ms) pc q :=
  zi_const (Or.inl ⟨rfl, x, rfl, hn⟩) (fun _ _ _ _ k hk => lv_ldcw hx hb hown hc hd (k hk)) K

theorem zm_ldc2 (hx : p.tables.exec = Jvm.exec) (hb : c.code = cc) {own : String} {idx : Nat} {x : Int64} {n : Int} (hown : s.vm.findClass own = some m.cls) (hc : (Jvm.Cond.constantLong own idx x).before args s = true) (hn : x.toInt = n) (hd : decode cc pc = .ok (.ldc2_w idx, 3)) (K : zw D cA RT ro sz H0 Ga nL (zk_G p l e R s m args below meth c cells slots Q D RT ro ms) (pc + 3) (zq_S q ((1, zl_k n) :: q.2.2.2.1))) : zw D cA RT ro sz H0 Ga nL (zk_G p l e R s m args below meth c cells slots Q D RT ro ms) pc q :=
  zi_const (Or.inr ⟨rfl, x, rfl, hn⟩) (fun _ _ _ _ k hk => lv_ldc2 hx hb hown hc hd (k hk)) K

/-- a value of type t is pushed -/
theorem zm_push {pc' : Nat} {t : zt_T} (h2 : t.1 ≠ 2) (h3 : t.1 ≠ 3) (row : ∀ H locs ls st, zh_ok D cA RT ro sz H0 H locs → ∃ x, zt_ok ro x t ∧ (W p l e R s m args below meth c H locs cells slots Q (F0 m pc' ls (x :: st)) → W p l e R s m args below meth c H locs cells slots Q (F0 m pc ls st))) (K : zw D cA RT ro sz H0 Ga nL (zk_G p l e R s m args below meth c cells slots Q D RT ro ms) pc' (zx_ft t q q.2.2.2.1)) : zw D cA RT ro sz H0 Ga nL (zk_G p l e R s m args below meth c cells slots Q D RT ro ms) pc q := by
  intro hw v H locs ls st h hh hk
  obtain ⟨x, h4, h5⟩ := row H locs ls st hh
  obtain ⟨z, h6⟩ := zx_ft_ok (t := t) hw hw.2.2.1 h h.2.2.2.1 h4 h2 h3
  exact h5 (K (zx_ft_wf hw hw.2.2.1) _ H locs ls _ h6 hh hk)
end ZO
