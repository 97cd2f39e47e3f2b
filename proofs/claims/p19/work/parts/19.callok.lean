/-! a call by a contract, its soundness -/
section ZCS
variable {D : va_G} {cA : Nat → ClassId} {RT : List zr_R} {ro : Nat → Option Nat} {sz : Nat} {H0 : Heap} {Ga : List Int} {nL : Nat} {G : zg_G} {pc pc' : Nat} {q : zs_S}
theorem zs_st_app {v : Nat → Int} : ∀ {A B : List zv_V} {st : List Value}, zs_st ro v st (A ++ B) → ∃ a b, st = a ++ b ∧ zs_st ro v a A ∧ zs_st ro v b B
  | [], B, st, h => ⟨[], st, rfl, trivial, h⟩
  | z :: A, B, x :: st, h => by
    obtain ⟨a, b, h1, h2, h3⟩ := zs_st_app h.2
    exact ⟨x :: a, b, by rw [h1]; rfl, ⟨h.1, h2⟩, h3⟩
  | _ :: _, _, [], h => h.elim
theorem zs_st_ap {v : Nat → Int} : ∀ {A B : List zv_V} {a b : List Value}, zs_st ro v a A → zs_st ro v b B → zs_st ro v (a ++ b) (A ++ B)
  | [], _, [], _, _, h => h
  | _ :: _, _, _ :: _, _, h1, h => ⟨h1.1, zs_st_ap h1.2 h⟩
  | [], _, _ :: _, _, h1, _ => h1.elim
  | _ :: _, _, [], _, h1, _ => h1.elim
theorem zs_st_rev {v : Nat → Int} : ∀ {A : List zv_V} {a : List Value}, zs_st ro v a A → zs_st ro v a.reverse A.reverse
  | [], [], _ => trivial
  | z :: A, x :: a, h => by
    rw [List.reverse_cons, List.reverse_cons]
    exact zs_st_ap (zs_st_rev h.2) ⟨h.1, trivial⟩
  | [], _ :: _, h => h.elim
  | _ :: _, [], h => h.elim
theorem zs_st_get {v : Nat → Int} : ∀ {A : List zv_V} {a : List Value} {j : Nat} {z : zv_V}, zs_st ro v a A → A[j]? = some z → ∃ x, a[j]? = some x ∧ zv_ok ro v x z
  | z :: A, x :: a, 0, _, h, e => by cases e; exact ⟨x, rfl, h.1⟩
  | z :: A, x :: a, j + 1, _, h, e => by
    obtain ⟨y, h1, h2⟩ := zs_st_get (j := j) h.2 (by simpa using e)
    exact ⟨y, by simpa using h1, h2⟩
  | [], _, _, _, _, e => by simp at e
  | _ :: _, [], _, _, h, _ => h.elim
theorem zs_st_mono {v v' : Nat → Int} {n : Nat} (hv : ∀ f, zl_wf n f → zl_at v' f = zl_at v f) : ∀ {A : List zv_V} {a : List Value}, (∀ z ∈ A, zv_wf n z) → zs_st ro v a A → zs_st ro v' a A
  | [], [], _, h => h
  | [], _ :: _, _, h => h
  | _ :: _, [], _, h => h
  | z :: A, x :: a, hw, h => by
    refine ⟨?_, zs_st_mono hv (fun y hy => hw y (List.mem_cons_of_mem _ hy)) h.2⟩
    have e := hv z.2 (hw z List.mem_cons_self)
    have h1 := h.1
    obtain ⟨k, f⟩ := z
    dsimp only at e
    match k with
    | 0 => obtain ⟨a, h1, h2⟩ := h1; exact ⟨a, h1, by rw [e]; exact h2⟩
    | 1 => obtain ⟨a, h1, h2⟩ := h1; exact ⟨a, h1, by rw [e]; exact h2⟩
    | 2 => exact ⟨h1.1, by rw [e]; exact h1.2⟩
    | 3 => obtain ⟨a, h1, h2⟩ := h1; exact ⟨a, h1, by rw [e]; exact h2⟩
    | k + 4 =>
      rcases h1 with ⟨h1, h2, h3⟩ | ⟨a, h1, h2, h3⟩
      · exact Or.inl ⟨h1, h2, by rw [e]; exact h3⟩
      · exact Or.inr ⟨a, h1, h2, by rw [e]; exact h3⟩
theorem zx_tys_ok {v : Nat → Int} {H : Heap} {ls : Array Slot} {st : List Value} (h : zs_ok D RT ro Ga nL q v H ls st) : ∀ {zs : List zv_V} {ts : List zt_T} {vs : List Value}, zx_tys q zs ts = true → zs_st ro v vs zs → zt_all ro vs ts ∧ vs.map zi_of = zs.map (fun z => zl_at v z.2)
  | [], [], [], _, _ => ⟨trivial, rfl⟩
  | z :: zs, t :: ts, x :: vs, ht, hv => by
    simp only [zx_tys, Bool.and_eq_true] at ht
    obtain ⟨h1, h2⟩ := zx_tys_ok h ht.2 hv.2
    exact ⟨⟨zx_ty_ok h hv.1 ht.1, h1⟩, by rw [List.map_cons, List.map_cons, h2, zi_of_ok hv.1 (zx_ty_3 ht.1)]⟩
  | [], [], _ :: _, _, hv => hv.elim
  | [], _ :: _, _, ht, _ => by simp [zx_tys] at ht
  | _ :: _, [], _, ht, _ => by simp [zx_tys] at ht
  | _ :: _, _ :: _, [], _, hv => hv.elim
theorem zx_pf0_ok {v : Nat → Int} {H : Heap} {ls : Array Slot} {st vs : List Value} {zs : List zv_V} {p : Nat × Nat × Nat} {z : zv_V} (h : zs_ok D RT ro Ga nL q v H ls st) (hv : zs_st ro v vs zs) (hz : zx_pf0 q zs p = some z) : zv_ok ro v (zc_fv D RT H vs p) z := by
  unfold zx_pf0 at hz
  split at hz
  · rename_i y hy
    split at hz
    · rename_i i e1 e2
      have e1 := Nat.eq_of_beq_eq_true e1
      obtain ⟨x, h1, h2⟩ := zs_st_get hv hy
      obtain ⟨k, f⟩ := y
      dsimp only at e1 e2
      subst e1
      obtain ⟨a, h3, h4, h5⟩ := zv_rf h2
      subst h3
      obtain ⟨a', ci, n, fs, g1, g2, g3, g4, g5⟩ := h.2.2.2.2.1 _ (zf_get_mem hz)
      dsimp only at g1 g2 g3 g4 g5
      rw [zx_un_at e2] at h5
      have : a' = a := by
        have : (a' : Int) = a := by rw [g1, h5]
        omega
      subst this
      unfold zc_fv
      rw [h1]
      dsimp only
      rw [show zr_ci RT p.2.1 = ci by simp [zr_ci, g3]]
      exact g5
    · cases hz
  · cases hz
theorem zx_pf0_wf {zs : List zv_V} {p : Nat × Nat × Nat} {z : zv_V} (hw : zs_wf q) (hz : zx_pf0 q zs p = some z) : zv_wf q.1.length z := by
  unfold zx_pf0 at hz
  split at hz
  · split at hz
    · exact (hw.2.2.2.1 _ (zf_get_mem hz)).2
    · cases hz
  · cases hz
theorem zx_pfs_ok {v : Nat → Int} {H : Heap} {ls : Array Slot} {st vs : List Value} {zs : List zv_V} (hw : zs_wf q) (h : zs_ok D RT ro Ga nL q v H ls st) (hv : zs_st ro v vs zs) : ∀ {ps : List ((Nat × Nat × Nat) × zt_T)} {ys : List zv_V}, zx_pfs q zs ps = some ys →
    (∀ e ∈ ps, zt_ok ro (zc_fv D RT H vs e.1) e.2) ∧ ps.map (fun e => zi_of (zc_fv D RT H vs e.1)) = ys.map (fun z => zl_at v z.2) ∧ ∀ y ∈ ys, zv_wf q.1.length y
  | [], ys, hy => by
    simp only [zx_pfs, Option.some.injEq] at hy
    subst hy
    exact ⟨fun e he => (by cases he), rfl, fun y hy => (by cases hy)⟩
  | e :: ps, ys, hy => by
    unfold zx_pfs at hy
    split at hy
    · rename_i z r h1 h2
      split at hy
      · rename_i h3
        cases hy
        obtain ⟨g1, g2, g3⟩ := zx_pfs_ok hw h hv h2
        have g4 := zx_pf0_ok h hv h1
        refine ⟨fun x hx => ?_, by rw [List.map_cons, List.map_cons, g2, zi_of_ok g4 (zx_ty_3 h3)], fun y hy => ?_⟩
        · rcases List.mem_cons.mp hx with e' | e'
          · rw [e']; exact zx_ty_ok h g4 h3
          · exact g1 x e'
        · rcases List.mem_cons.mp hy with e' | e'
          · rw [e']; exact zx_pf0_wf hw h1
          · exact g3 y e'
      · cases hy
    · cases hy
/-- new unknowns for the fields behind -/
def zx_po (zs : List zv_V) : zs_S → List (Nat × Nat × Nat) → List zt_T → Option (zs_S × List zl_F)
  | q, [], [] => some (q, [])
  | q, p :: ps, t :: ts => (match zs[p.1]? with
    | some z => (match Nat.beq z.1 (4 + 2 * p.2.1), zx_un z.2, Nat.beq t.1 2 || Nat.beq t.1 3 with
      | true, some i, false => (match zx_po zs (zq_F (zs_new q (zt_b t).1 (zt_b t).2) (((i, p.2.1, p.2.2), (t.1, zl_id q.1.length)) :: q.2.2.2.2.1)) ps ts with
        | some r => some (r.1, zl_id q.1.length :: r.2)
        | none => none)
      | _, _, _ => none)
    | none => none)
  | _, _, _ => none
theorem zx_un_lt {n i : Nat} {f : zl_F} (hw : zl_wf n f) (hi : zx_un f = some i) : i < n := by
  unfold zx_un at hi
  split at hi
  · cases hi
    exact hw _ List.mem_cons_self
  · cases hi
theorem zx_po_ok {H : Heap} {ls : Array Slot} {st vs : List Value} {zs : List zv_V} : ∀ {ps : List (Nat × Nat × Nat)} {ts : List zt_T} {q q' : zs_S} {fs : List zl_F} {v : Nat → Int}, zx_po zs q ps ts = some (q', fs) → zs_wf q → zs_ok D RT ro Ga nL q v H ls st → zs_st ro v vs zs → (∀ z ∈ zs, zv_wf q.1.length z) →
    (∀ p ∈ ps, ∃ (ci n : Nat) (gs : List zt_T), RT[p.2.1]? = some (0, ci, n, gs) ∧ p.2.2 < gs.length) → zt_all ro (ps.map (zc_fv D RT H vs)) ts →
    ∃ v', zs_wf q' ∧ zs_ok D RT ro Ga nL q' v' H ls st ∧ q.1.length ≤ q'.1.length ∧ (∀ f, zl_wf q.1.length f → zl_at v' f = zl_at v f) ∧ fs.map (zl_at v') = ps.map (fun p => zi_of (zc_fv D RT H vs p)) ∧ ∀ f ∈ fs, zl_wf q'.1.length f
  | [], [], q, q', fs, v, hq, hw, h, hv, hz, hp, ht => by
    simp only [zx_po, Option.some.injEq, Prod.mk.injEq] at hq
    obtain ⟨rfl, rfl⟩ := hq
    exact ⟨v, hw, h, Nat.le_refl _, fun _ _ => rfl, rfl, fun f hf => by cases hf⟩
  | p :: ps, t :: ts, q, q', fs, v, hq, hw, h, hv, hz, hp, ht => by
    unfold zx_po at hq
    split at hq
    · rename_i z hzp
      split at hq
      · rename_i i e1 e2 e3
        split at hq
        · rename_i r hr
          obtain ⟨q2, fs2⟩ := r
          cases hq
          have e1 := Nat.eq_of_beq_eq_true e1
          simp only [Bool.or_eq_false_iff] at e3
          have t2 : t.1 ≠ 2 := fun e => by rw [e] at e3; exact absurd e3.1 (by decide)
          have t3 : t.1 ≠ 3 := fun e => by rw [e] at e3; exact absurd e3.2 (by decide)
          obtain ⟨x, h1, h2⟩ := zs_st_get hv hzp
          have wz := hz z (List.mem_of_getElem? hzp)
          obtain ⟨k, f⟩ := z
          dsimp only at e1 e2
          subst e1
          obtain ⟨a, h3, h4, h5⟩ := zv_rf h2
          subst h3
          rw [zx_un_at e2] at h5
          have iw := zx_un_lt wz e2
          obtain ⟨ci, n, gs, p1, p2⟩ := hp p List.mem_cons_self
          have hfv : zc_fv D RT H vs p = zh_f D H a ci p.2.2 := by
            unfold zc_fv
            rw [h1]
            dsimp only
            rw [show zr_ci RT p.2.1 = ci by simp [zr_ci, p1]]
          obtain ⟨y, hy, hyv⟩ := zt_new ht.1 t2 t3
          have hn := zs_new_ok hw h hy
          have hnw := zs_new_wf (lo := (zt_b t).1) (hi := (zt_b t).2) hw
          have el : (zs_new q (zt_b t).1 (zt_b t).2).1.length = q.1.length + 1 := by simp [zs_new]
          have hag : ∀ g, zl_wf q.1.length g → zl_at (zl_up v q.1.length y) g = zl_at v g := fun g hg => zl_up_at hg
          have hself : zl_at (zl_up v q.1.length y) (zl_id q.1.length) = y := by rw [zl_id_at]; simp [zl_up]
          obtain ⟨v', k1, k2, k3, k4, k5, k6⟩ := zx_po_ok (v := zl_up v q.1.length y) hr
            ⟨hnw.1, hnw.2.1, hnw.2.2.1, fun e he => by
              show e.1.1 < (zs_new q (zt_b t).1 (zt_b t).2).1.length ∧ zv_wf (zs_new q (zt_b t).1 (zt_b t).2).1.length e.2
              rcases List.mem_cons.mp he with e' | e'
              · rw [e', el]; exact ⟨by dsimp only; omega, zl_id_wf (by omega)⟩
              · exact hnw.2.2.2.1 e e', hnw.2.2.2.2⟩
            ⟨hn.1, hn.2.1, hn.2.2.1, hn.2.2.2.1, fun e he => by
              rcases List.mem_cons.mp he with e' | e'
              · rw [e']
                refine ⟨a, ci, n, gs, ?_, h4, p1, p2, ?_⟩
                · dsimp only
                  rw [show zl_up v q.1.length y i = v i by simp [zl_up, Nat.ne_of_lt iw]]; exact h5
                · dsimp only
                  rw [← hfv]; exact hyv _ _ hself
              · exact hn.2.2.2.2.1 e e', hn.2.2.2.2.2⟩
            (zs_st.up hz hv) (fun g hg => by
              show zv_wf (zs_new q (zt_b t).1 (zt_b t).2).1.length g
              exact zl_wf.mono (hz g hg) (by omega)) (fun p' hp' => hp p' (List.mem_cons_of_mem _ hp')) ht.2
          have el2 : q.1.length + 1 ≤ q2.1.length := by rw [← el]; exact k3
          have hself' : zl_at v' (zl_id q.1.length) = y := by
            rw [k4 (zl_id q.1.length) (by
              show zl_wf (zs_new q (zt_b t).1 (zt_b t).2).1.length (zl_id q.1.length)
              exact zl_id_wf (by omega))]
            exact hself
          refine ⟨v', k1, k2, Nat.le_trans (Nat.le_succ _) el2, fun g hg => ?_, ?_, fun g hg => ?_⟩
          · rw [k4 g (by
              show zl_wf (zs_new q (zt_b t).1 (zt_b t).2).1.length g
              exact hg.mono (by omega)), hag g hg]
          · rw [List.map_cons, List.map_cons, k5, hself']
            have hz3 : zi_of (zc_fv D RT H vs p) = zl_at (zl_up v q.1.length y) (zl_id q.1.length) := zi_of_ok (hyv _ _ hself) t3
            rw [hz3, hself]
          · rcases List.mem_cons.mp hg with e' | e'
            · rw [e']; exact zl_id_wf (show q.1.length < q2.1.length by omega)
            · exact k6 g e'
        · cases hq
      · cases hq
    · cases hq
  | [], _ :: _, q, q', fs, v, hq, hw, h, hv, hz, hp, ht => by simp [zx_po] at hq
  | _ :: _, [], q, q', fs, v, hq, hw, h, hv, hz, hp, ht => by simp [zx_po] at hq
end ZCS
