/-! the points close each other by their measures; the entry -/
def zb_f (n : Nat) (f : zl_F) : Bool := f.1.all (fun t => Nat.blt t.1 n)
theorem zb_f_ok {n : Nat} {f : zl_F} (h : zb_f n f = true) : zl_wf n f := fun t ht => Nat.le_of_ble_eq_true (List.all_eq_true.mp h t ht)
def zb_wf (q : zs_S) : Bool := q.2.1.all (zb_f q.1.length) && q.2.2.1.all (fun x => zb_f q.1.length x.2.2) && q.2.2.2.1.all (fun x => zb_f q.1.length x.2) && q.2.2.2.2.1.all (fun x => Nat.blt x.1.1 q.1.length && zb_f q.1.length x.2.2) && q.2.2.2.2.2.all (zb_f q.1.length)
theorem zb_wf_ok {q : zs_S} (h : zb_wf q = true) : zs_wf q := by
  unfold zb_wf at h
  simp only [Bool.and_eq_true] at h
  obtain ⟨⟨⟨⟨h1, h2⟩, h3⟩, h4⟩, h5⟩ := h
  refine ⟨fun f hf => zb_f_ok (List.all_eq_true.mp h1 f hf), fun x hx => zb_f_ok (List.all_eq_true.mp h2 x hx), fun x hx => zb_f_ok (List.all_eq_true.mp h3 x hx), fun x hx => ?_, fun g hg => zb_f_ok (List.all_eq_true.mp h5 g hg)⟩
  have h6 := List.all_eq_true.mp h4 x hx
  rw [Bool.and_eq_true] at h6
  exact ⟨Nat.le_of_ble_eq_true h6.1, zb_f_ok h6.2⟩
/-- the state with which a point is begun: its measures stay as numbers -/
def zp_st (P : zp_P) : zs_S := zq_G (zp_mk P) ((zp_mk P).2.2.2.2.2 ++ P.2.2.2.2.2.2.2)
def zk_ps (K : zk_K) (tb : List (Nat × Instr × Nat)) (pts : List zp_P) (k : zc_C) (rc n N fuel : Nat) : Bool := pts.all (fun P => Nat.beq P.2.2.2.2.2.2.2.length N && zb_wf (zp_st P) && zk K tb pts k rc n true fuel true P.1 (zp_st P))
section ZQ9
variable {p : Program} {l : Launch} {e : Env} {R : Room} {s : State} {m : MethodId} {args : Array Value} {below : List Frame} {meth : Method} {c : Code} {cells slots : Nat} {Q : State → Prop} {cc : ByteArray}
variable {D : va_G} {cA : Nat → ClassId} {ro : Nat → Option Nat} {sz : Nat} {H0 : Heap} {Ga : List Int} {zn : String} {K : zk_K}
theorem zk_points {tb : List (Nat × Instr × Nat)} {pts : List zp_P} {k : zc_C} {rc : Nat} {vs : List Value} {N fuel : Nat} (hM : zk_M p l e R s m args below meth c cells slots Q cc D cA ro sz H0 zn K) (hE : zk_E p l e R s m args below meth c cells slots Q cc D cA ro sz H0 K k rc vs) (hdec : ∀ x ∈ tb, decode cc x.1 = .ok x.2) (hg : Ga = vs.map zi_of ++ k.2.1.map (fun e => zi_of (zc_fv D K.2.1 s.heap vs e.1))) (ho : ∀ p ∈ k.2.2.2.2.1, ∃ (a : Nat), vs[p.1]? = some (.ref a)) (hc : zk_ps K tb pts k rc Ga.length N fuel = true) :
    ∀ P ∈ pts, ∀ (v : Nat → Int) H locs ls st, zs_ok D K.2.1 ro Ga K.1 (zp_mk P) v H ls st → zh_ok D cA K.2.1 ro sz H0 H locs → (zk_G p l e R s m args below meth c cells slots Q D K.2.1 ro K.2.2.2.2.2.2.2.1) P.1 H locs ls st := by
  have key : ∀ lst : List Nat, lst.length = N → ∀ P ∈ pts, ∀ (v : Nat → Int) H locs ls st, zs_ok D K.2.1 ro Ga K.1 (zp_mk P) v H ls st → zh_ok D cA K.2.1 ro sz H0 H locs → P.2.2.2.2.2.2.2.map (fun f => (zl_at v f).toNat) = lst → (zk_G p l e R s m args below meth c cells slots Q D K.2.1 ro K.2.2.2.2.2.2.2.1) P.1 H locs ls st := by
    refine zk_ind _ N (fun lst hlst ih => ?_)
    intro P hP v H locs ls st hs hh hm
    have h1 := List.all_eq_true.mp hc P hP
    simp only [Bool.and_eq_true] at h1
    obtain ⟨⟨h2, h3⟩, h4⟩ := h1
    have e1 : (P.2.2.2.2.2.2.2.map (zl_at v)).map Int.toNat = lst := by rw [List.map_map]; exact hm
    refine zk_sound (m0 := P.2.2.2.2.2.2.2.map (zl_at v)) hM hE hdec hg ho (fun P2 hP2 v2 H2 locs2 ls2 st2 hs2 hh2 hlt => ?_) fuel true P.1 (zp_st P) h4 (zb_wf_ok h3) v H locs ls st ?_ hh
    · have hlt := hlt rfl
      rw [e1] at hlt
      have h5 := List.all_eq_true.mp hc P2 hP2
      simp only [Bool.and_eq_true] at h5
      exact ih _ (by rw [List.length_map]; exact Nat.eq_of_beq_eq_true h5.1.1) hlt P2 hP2 v2 H2 locs2 ls2 st2 hs2 hh2 rfl
    · refine ⟨hs.1, hs.2.1, hs.2.2.1, hs.2.2.2.1, hs.2.2.2.2.1, ?_⟩
      show ((zp_mk P).2.2.2.2.2 ++ P.2.2.2.2.2.2.2).map (zl_at v) = Ga ++ P.2.2.2.2.2.2.2.map (zl_at v)
      rw [List.map_append, hs.2.2.2.2.2]
  intro P hP v H locs ls st hs hh
  have h1 := List.all_eq_true.mp hc P hP
  simp only [Bool.and_eq_true] at h1
  exact key _ (by rw [List.length_map]; exact Nat.eq_of_beq_eq_true h1.1.1) P hP v H locs ls st hs hh rfl
end ZQ9
/-- the entry by the method's own contract -/
def ze_L : Nat → Nat → List zt_T → List (Nat × zv_V)
  | _, _, [] => []
  | i, u, t :: ts => (i, (t.1, zl_id u)) :: ze_L (i + (match Nat.beq t.1 1 with
    | true => 2
    | false => 1)) (u + 1) ts
def ze_F : Nat → List ((Nat × Nat × Nat) × zt_T) → List ((Nat × Nat × Nat) × zv_V)
  | _, [] => []
  | u, x :: t => (x.1, (x.2.1, zl_id u)) :: ze_F (u + 1) t
def ze_mk (k : zc_C) : zs_S := (k.1.map zt_b ++ k.2.1.map (fun x => zt_b x.2), k.2.2.1, ze_L 0 0 k.1, [], ze_F k.1.length k.2.1, zp_G 0 (k.1.length + k.2.1.length))
def ze_ok (RT : List zr_R) (k : zc_C) : Bool := k.1.all (fun t => !(Nat.beq t.1 2 || Nat.beq t.1 3)) && k.2.1.all (fun x => !(Nat.beq x.2.1 2 || Nat.beq x.2.1 3) && (match k.1[x.1.1]?, RT[x.1.2.1]? with
    | some t, some (0, _, _, fs) => Nat.beq t.1 (4 + 2 * x.1.2.1) && Nat.blt x.1.2.2 fs.length
    | _, _ => false)) && k.2.2.2.2.1.all (fun p => match k.1[p.1]? with
    | some t => Nat.beq t.1 (4 + 2 * p.2.1)
    | none => false)
theorem zt_zv {ro : Nat → Option Nat} {v : Nat → Int} {x : Value} {t : zt_T} {f : zl_F} (h : zt_ok ro x t) (h2 : t.1 ≠ 2) (h3 : t.1 ≠ 3) (e : zl_at v f = zi_of x) : zv_ok ro v x (t.1, f) ∧ ((zt_b t).2 < (zt_b t).1 ∨ ((zt_b t).1 ≤ zi_of x ∧ zi_of x ≤ (zt_b t).2)) := by
  obtain ⟨k, lo, hi⟩ := t
  match k with
  | 0 =>
    obtain ⟨y, rfl, h5, h6⟩ := h
    exact ⟨⟨y, rfl, e.symm⟩, Or.inr ⟨h5, h6⟩⟩
  | 1 =>
    obtain ⟨y, rfl, h5, h6⟩ := h
    exact ⟨⟨y, rfl, e.symm⟩, Or.inr ⟨h5, h6⟩⟩
  | 2 => exact absurd rfl h2
  | 3 => exact absurd rfl h3
  | k + 4 =>
    rcases h with ⟨h4, rfl⟩ | ⟨a, rfl, h5⟩
    · exact ⟨Or.inl ⟨h4, rfl, e⟩, Or.inl (show (-1 : Int) < 0 by decide)⟩
    · exact ⟨Or.inr ⟨a, rfl, h5, e.symm⟩, Or.inl (show (-1 : Int) < 0 by decide)⟩
theorem zt_all_get {ro : Nat → Option Nat} : ∀ {vs : List Value} {ts : List zt_T} {j : Nat} {t : zt_T}, zt_all ro vs ts → ts[j]? = some t → ∃ x, vs[j]? = some x ∧ zt_ok ro x t
  | x :: vs, t :: ts, 0, _, h, e => by cases e; exact ⟨x, rfl, h.1⟩
  | x :: vs, t :: ts, j + 1, _, h, e => by
    obtain ⟨y, h1, h2⟩ := zt_all_get (j := j) h.2 (by simpa using e)
    exact ⟨y, by simpa using h1, h2⟩
  | [], [], _, _, _, e => by simp at e
  | [], _ :: _, _, _, h, _ => h.elim
  | _ :: _, [], _, _, h, _ => h.elim
theorem zt_all_len {ro : Nat → Option Nat} : ∀ {vs : List Value} {ts : List zt_T}, zt_all ro vs ts → vs.length = ts.length
  | [], [], _ => rfl
  | x :: vs, t :: ts, h => by simp [zt_all_len h.2]
  | [], _ :: _, h => h.elim
  | _ :: _, [], h => h.elim
theorem ze_L_ok {ro : Nat → Option Nat} {v : Nat → Int} : ∀ {vs : List Value} {ts : List zt_T} {i u : Nat}, zt_all ro vs ts → (∀ t ∈ ts, t.1 ≠ 2 ∧ t.1 ≠ 3) → (∀ (j : Nat) (x : Value), vs[j]? = some x → v (u + j) = zi_of x) → ∀ e ∈ ze_L i u ts, ∃ x : Value, (e.1, x) ∈ lv_args i vs ∧ zv_ok ro v x e.2
  | [], [], _, _, _, _, _, e, he => by cases he
  | x :: vs, t :: ts, i, u, h, hn, hv, e, he => by
    have h0 := zt_zv (v := v) (f := zl_id u) h.1 (hn t List.mem_cons_self).1 (hn t List.mem_cons_self).2 (by rw [zl_id_at]; exact hv 0 x rfl)
    have hcat : x.category = match Nat.beq t.1 1 with
      | true => 2
      | false => 1 := by
      rw [zv_cat h0.1]
      by_cases g : t.1 = 1
      · simp only [g]; rfl
      · rw [if_neg g, show Nat.beq t.1 1 = false by
          cases g2 : Nat.beq t.1 1 with
          | true => exact absurd (Nat.eq_of_beq_eq_true g2) g
          | false => rfl]
    rcases List.mem_cons.mp he with g | g
    · rw [g]
      exact ⟨x, List.mem_cons_self, h0.1⟩
    · obtain ⟨y, h1, h2⟩ := ze_L_ok (i := i + (match Nat.beq t.1 1 with
        | true => 2
        | false => 1)) (u := u + 1) h.2 (fun t' ht' => hn t' (List.mem_cons_of_mem _ ht')) (fun j y hy => by rw [show u + 1 + j = u + (j + 1) by omega]; exact hv (j + 1) y (by simpa using hy)) e g
      rw [← hcat] at h1
      have hc2 : i + x.category = if x.category = 2 then i + 2 else i + 1 := by
        rcases lv_cat x with c1 | c1 <;> rw [c1] <;> simp
      rw [hc2] at h1
      exact ⟨y, List.mem_cons_of_mem _ h1, h2⟩
  | [], _ :: _, _, _, h, _, _, _, _ => h.elim
  | _ :: _, [], _, _, h, _, _, _, _ => h.elim
theorem ze_F_ok {D : va_G} {RT : List zr_R} {ro : Nat → Option Nat} {v : Nat → Int} {H : Heap} {vs : List Value} (hobj : ∀ (j : Nat) (a : Nat), vs[j]? = some (.ref a) → v j = (a : Int)) : ∀ {ps : List ((Nat × Nat × Nat) × zt_T)} {u : Nat}, (∀ x ∈ ps, zt_ok ro (zc_fv D RT H vs x.1) x.2 ∧ x.2.1 ≠ 2 ∧ x.2.1 ≠ 3 ∧ ∃ (a ci n : Nat) (fs : List zt_T), vs[x.1.1]? = some (.ref a) ∧ ro a = some x.1.2.1 ∧ RT[x.1.2.1]? = some (0, ci, n, fs) ∧ x.1.2.2 < fs.length) → (∀ (j : Nat) (x : (Nat × Nat × Nat) × zt_T), ps[j]? = some x → v (u + j) = zi_of (zc_fv D RT H vs x.1)) → ∀ e ∈ ze_F u ps, zs_fact D RT ro v H e
  | [], _, _, _, e, he => by cases he
  | x :: ps, u, hp, hv, e, he => by
    rcases List.mem_cons.mp he with g | g
    · rw [g]
      obtain ⟨h1, h2, h3, a, ci, n, fs, h4, h5, h6, h7⟩ := hp x List.mem_cons_self
      have hfv : zc_fv D RT H vs x.1 = zh_f D H a ci x.1.2.2 := by
        unfold zc_fv
        rw [h4]
        dsimp only
        rw [show zr_ci RT x.1.2.1 = ci by simp [zr_ci, h6]]
      refine ⟨a, ci, n, fs, (hobj _ _ h4).symm, h5, h6, h7, ?_⟩
      dsimp only
      rw [← hfv]
      exact (zt_zv h1 h2 h3 (by rw [zl_id_at]; exact hv 0 x rfl)).1
    · exact ze_F_ok (u := u + 1) hobj (fun y hy => hp y (List.mem_cons_of_mem _ hy)) (fun j y hy => by rw [show u + 1 + j = u + (j + 1) by omega]; exact hv (j + 1) y (by simpa using hy)) e g
theorem ze_mk_ok {D : va_G} {RT : List zr_R} {ro : Nat → Option Nat} {k : zc_C} {H : Heap} {vs : List Value} {nL : Nat} {ls : Array Slot} (hk : ze_ok RT k = true) (hp : zc_pre D RT ro k H vs) (hl : lv_has ls nL (lv_args 0 vs)) :
    zs_ok D RT ro (vs.map zi_of ++ k.2.1.map (fun e => zi_of (zc_fv D RT H vs e.1))) nL (ze_mk k) (fun u => (vs.map zi_of ++ k.2.1.map (fun e => zi_of (zc_fv D RT H vs e.1))).getD u 0) H ls [] ∧ ∀ p ∈ k.2.2.2.2.1, ∃ (a : Nat), vs[p.1]? = some (.ref a) := by
  obtain ⟨h1, h2, h3⟩ := hp
  unfold ze_ok at hk
  simp only [Bool.and_eq_true] at hk
  obtain ⟨⟨k1, k2⟩, k3⟩ := hk
  have n1 : ∀ t ∈ k.1, t.1 ≠ 2 ∧ t.1 ≠ 3 := fun t ht => by
    have := List.all_eq_true.mp k1 t ht
    simp only [Bool.not_eq_true', Bool.or_eq_false_iff] at this
    exact ⟨fun g => by rw [g] at this; exact absurd this.1 (by decide), fun g => by rw [g] at this; exact absurd this.2 (by decide)⟩
  have hlen := zt_all_len h1
  have hv1 : ∀ (j : Nat) (x : Value), vs[j]? = some x → (vs.map zi_of ++ k.2.1.map (fun e => zi_of (zc_fv D RT H vs e.1))).getD j 0 = zi_of x := fun j x hj => by
    have := (List.getElem?_eq_some_iff.mp hj).1
    rw [List.getD_eq_getElem?_getD, List.getElem?_append_left (by simpa using this), List.getElem?_map, hj]; rfl
  have hv2 : ∀ (j : Nat) (x : (Nat × Nat × Nat) × zt_T), k.2.1[j]? = some x → (vs.map zi_of ++ k.2.1.map (fun e => zi_of (zc_fv D RT H vs e.1))).getD (k.1.length + j) 0 = zi_of (zc_fv D RT H vs x.1) := fun j x hj => by
    rw [List.getD_eq_getElem?_getD, List.getElem?_append_right (by simp [hlen]), List.length_map, hlen, Nat.add_sub_cancel_left, List.getElem?_map, hj]; rfl
  have hobj : ∀ (j r : Nat) (t : zt_T), k.1[j]? = some t → t.1 = 4 + 2 * r → ∃ a : Nat, vs[j]? = some (.ref a) ∧ ro a = some r := fun j r t ht hr => by
    obtain ⟨x, g1, g2⟩ := zt_all_get h1 ht
    obtain ⟨kt, lo, hi⟩ := t
    dsimp only at hr
    subst hr
    rw [show 4 + 2 * r = 2 * r + 4 by omega] at g2
    rcases g2 with ⟨g3, -⟩ | ⟨a, g3, g4⟩
    · omega
    · exact ⟨a, by rw [g1, g3], by rw [show 2 * r / 2 = r by omega] at g4; exact g4⟩
  have n2 : ∀ x ∈ k.2.1, x.2.1 ≠ 2 ∧ x.2.1 ≠ 3 ∧ ∃ (a ci n : Nat) (fs : List zt_T), vs[x.1.1]? = some (.ref a) ∧ ro a = some x.1.2.1 ∧ RT[x.1.2.1]? = some (0, ci, n, fs) ∧ x.1.2.2 < fs.length := fun x hx => by
    have g := List.all_eq_true.mp k2 x hx
    simp only [Bool.and_eq_true, Bool.not_eq_true', Bool.or_eq_false_iff] at g
    refine ⟨fun q => by rw [q] at g; exact absurd g.1.1 (by decide), fun q => by rw [q] at g; exact absurd g.1.2 (by decide), ?_⟩
    have g2 := g.2
    split at g2
    · rename_i t ci n fs ht hr
      rw [Bool.and_eq_true] at g2
      obtain ⟨a, a1, a2⟩ := hobj _ _ t ht (Nat.eq_of_beq_eq_true g2.1)
      exact ⟨a, ci, n, fs, a1, a2, hr, Nat.le_of_ble_eq_true g2.2⟩
    · cases g2
  refine ⟨⟨fun i b hb => ?_, h3, ⟨_, hl, ?_⟩, trivial, ?_, ?_⟩, fun p hp => ?_⟩
  · have hb : (k.1.map zt_b ++ k.2.1.map (fun x => zt_b x.2))[i]? = some b := hb
    rcases Nat.lt_or_ge i k.1.length with hi | hi
    · rw [List.getElem?_append_left (by simpa using hi), List.getElem?_map] at hb
      cases ht : k.1[i]? with
      | none => rw [ht] at hb; cases hb
      | some t =>
        rw [ht] at hb
        cases hb
        obtain ⟨x, g1, g2⟩ := zt_all_get h1 ht
        have := (zt_zv (v := fun _ => zi_of x) (f := zl_id 0) g2 (n1 t (List.mem_of_getElem? ht)).1 (n1 t (List.mem_of_getElem? ht)).2 (by rw [zl_id_at])).2
        dsimp only
        rw [hv1 i x g1]; exact this
    · obtain ⟨j, rfl⟩ : ∃ j, i = k.1.length + j := ⟨i - k.1.length, by omega⟩
      rw [List.getElem?_append_right (by simp), List.length_map, Nat.add_sub_cancel_left, List.getElem?_map] at hb
      cases ht : k.2.1[j]? with
      | none => rw [ht] at hb; cases hb
      | some x =>
        rw [ht] at hb
        cases hb
        have hm := List.mem_of_getElem? ht
        have := (zt_zv (v := fun _ => zi_of (zc_fv D RT H vs x.1)) (f := zl_id 0) (h2 x hm) (n2 x hm).1 (n2 x hm).2.1 (by rw [zl_id_at])).2
        dsimp only
        rw [hv2 j x ht]; exact this
  · exact ze_L_ok h1 n1 (fun j x hj => by rw [Nat.zero_add]; exact hv1 j x hj)
  · exact ze_F_ok (fun j a ha => hv1 j (.ref a) ha) (fun x hx => ⟨h2 x hx, n2 x hx⟩) (fun j x hj => hv2 j x hj)
  · refine zp_G_map _ 0 _ (by simp [hlen]) (fun i x hx => ?_)
    rw [Nat.zero_add, List.getD_eq_getElem?_getD, hx]; rfl
  · have g := List.all_eq_true.mp k3 p hp
    split at g
    · rename_i t ht
      obtain ⟨a, a1, -⟩ := hobj _ _ t ht (Nat.eq_of_beq_eq_true g)
      exact ⟨a, a1⟩
    · cases g
