/-! the step of a call -/
def zx_kp (ms : List (Nat × Nat)) (F : List ((Nat × Nat × Nat) × zv_V)) : List ((Nat × Nat × Nat) × zv_V) := F.filter (fun e => !(ms.any (fun p => Nat.beq p.1 e.1.2.1 && Nat.beq p.2 e.1.2.2)))
def zx_c0 (ms : List (Nat × Nat)) (q : zs_S) (S : List zv_V) : zs_S := (q.1, q.2.1, q.2.2.1, S, zx_kp ms q.2.2.2.2.1, q.2.2.2.2.2)
def zx_rs (r : Option zt_T) (q : zs_S) : Option (zs_S × zl_F) := match r with
  | none => some (q, zl_k 0)
  | some t => (match Nat.beq t.1 2 || Nat.beq t.1 3 with
    | true => none
    | false => some (zx_ft t q q.2.2.2.1, zl_id q.1.length))
def zx_pk (RT : List zr_R) (ps : List (Nat × Nat × Nat)) : Bool := ps.all (fun p => match RT[p.2.1]? with
  | some (0, _, _, gs) => Nat.blt p.2.2 gs.length
  | _ => false)
def zx_cp (c : zc_C) (q : zs_S) : Option (List zv_V × List zv_V × List zv_V) :=
  let zs := (q.2.2.2.1.take c.1.length).reverse
  match zx_tys q zs c.1 && Nat.ble (zx_wt (q.2.2.2.1.drop c.1.length)) 8, zx_pfs q zs c.2.1 with
  | true, some ys => (match c.2.2.1.all (fun f => zl_le q.1 q.2.1 (zl_sB (zs.map (fun z => z.2) ++ ys.map (fun z => z.2)) f)) with
    | true => some (zs, ys, q.2.2.2.1.drop c.1.length)
    | false => none)
  | _, _ => none
def zx_ca (c : zc_C) (al : zc_A) (q : zs_S) (w : List zv_V × List zv_V × List zv_V) : Option zs_S := match zx_rs al.1 (zx_c0 c.2.2.2.1 q w.2.2) with
  | some r => (match zx_po w.1 r.1 c.2.2.2.2.1 al.2.1 with
    | some p => some ((al.2.2.map (zl_sB (w.1.map (fun z => z.2) ++ w.2.1.map (fun z => z.2) ++ r.2 :: p.2))).foldr (fun g a => zx_as a g) p.1)
    | none => none)
  | none => none
section ZCT
variable {D : va_G} {cA : Nat → ClassId} {RT : List zr_R} {ro : Nat → Option Nat} {sz : Nat} {H0 : Heap} {Ga : List Int} {nL : Nat} {G : zg_G} {pc pc' : Nat} {q : zs_S}
theorem zx_rs_ok {r : Option zt_T} {q' : zs_S} {f : zl_F} {v : Nat → Int} {H : Heap} {ls : Array Slot} {st : List Value} {x : Option Value} (hq : zx_rs r q = some (q', f)) (hw : zs_wf q) (h : zs_ok D RT ro Ga nL q v H ls st) (hx : zc_res ro r x) :
    ∃ v', zs_wf q' ∧ zs_ok D RT ro Ga nL q' v' H ls (x.toList ++ st) ∧ q.1.length ≤ q'.1.length ∧ (∀ g, zl_wf q.1.length g → zl_at v' g = zl_at v g) ∧ zl_at v' f = zc_rv x ∧ zl_wf q'.1.length f := by
  unfold zx_rs at hq
  split at hq
  · cases hq
    match x, hx with
    | none, _ => exact ⟨v, hw, h, Nat.le_refl _, fun _ _ => rfl, zl_k_at v 0, zl_k_wf⟩
  · rename_i t
    split at hq
    · cases hq
    · rename_i e3
      cases hq
      simp only [Bool.or_eq_false_iff] at e3
      have t2 : t.1 ≠ 2 := fun e => by rw [e] at e3; exact absurd e3.1 (by decide)
      have t3 : t.1 ≠ 3 := fun e => by rw [e] at e3; exact absurd e3.2 (by decide)
      match x, hx with
      | some x, hx =>
        obtain ⟨z, hz, hv⟩ := zt_new hx t2 t3
        have hself : zl_at (zl_up v q.1.length z) (zl_id q.1.length) = z := by rw [zl_id_at]; simp [zl_up]
        have el : (zx_ft t q q.2.2.2.1).1.length = q.1.length + 1 := by simp [zx_ft, zq_S, zs_new]
        refine ⟨zl_up v q.1.length z, zx_ft_wf hw hw.2.2.1, zq_S_ok (zs_new_ok hw h hz) ⟨hv _ _ hself, zs_st.up hw.2.2.1 h.2.2.2.1⟩, by omega, fun g hg => zl_up_at hg, ?_, by rw [el]; exact zl_id_wf (by omega)⟩
        rw [show zc_rv (some x) = zi_of x from rfl, zi_of_ok (hv _ _ hself) t3]
theorem zi_call {c : zc_C} {w : List zv_V × List zv_V × List zv_V} (hrow : zc_row D cA RT ro sz H0 nL G pc pc' c) (hp : zx_cp c q = some w) (hk : zx_pk RT c.2.2.2.2.1 = true)
    (K : ∀ al ∈ c.2.2.2.2.2, ∃ q', zx_ca c al q w = some q' ∧ zw D cA RT ro sz H0 Ga nL G pc' q') : zw D cA RT ro sz H0 Ga nL G pc q := by
  intro hw v H locs ls st h hh
  unfold zx_cp at hp
  dsimp only at hp
  split at hp
  · rename_i ys ht hys
    split at hp
    · rename_i hR
      cases hp
      rw [Bool.and_eq_true] at ht
      obtain ⟨ht, hwt⟩ := ht
      generalize hzs : (q.2.2.2.1.take c.1.length).reverse = zs at ht hys hR K
      have hS : q.2.2.2.1 = zs.reverse ++ q.2.2.2.1.drop c.1.length := by rw [← hzs, List.reverse_reverse, List.take_append_drop]
      have hst := h.2.2.2.1
      rw [hS] at hst
      obtain ⟨a, b, rfl, ha, hb⟩ := zs_st_app hst
      have hvs := zs_st_rev ha
      rw [List.reverse_reverse] at hvs
      have ea : a = a.reverse.reverse := (List.reverse_reverse a).symm
      rw [ea]
      generalize a.reverse = vs at hvs
      obtain ⟨t1, t2⟩ := zx_tys_ok h ht hvs
      obtain ⟨p1, p2, p3⟩ := zx_pfs_ok hw h hvs hys
      have wzs : ∀ z ∈ zs, zv_wf q.1.length z := fun z hz => hw.2.2.1 z (by rw [hS]; exact List.mem_append_left _ (List.mem_reverse.mpr hz))
      have wS0 : ∀ z ∈ q.2.2.2.1.drop c.1.length, zv_wf q.1.length z := fun z hz => hw.2.2.1 z (List.mem_of_mem_drop hz)
      have hσ : vs.map zi_of ++ c.2.1.map (fun e => zi_of (zc_fv D RT H vs e.1)) = (zs.map (fun z => z.2) ++ ys.map (fun z => z.2)).map (zl_at v) := by
        rw [t2, p2, List.map_append, List.map_map, List.map_map]; rfl
      obtain ⟨lv0, hlv0, -⟩ := h.2.2.1
      refine hrow H locs ls b vs hlv0.1 (by rw [zx_wt_ok hb]; exact Nat.le_of_ble_eq_true hwt) hh ⟨t1, p1, fun f hf => ?_⟩ (fun H' locs' x hh' hkp hal => ?_)
      · have h1 := List.all_eq_true.mp hR f hf
        have h2 := zl_le_ok h.1 h.2.1 h1
        rw [zl_sB_at] at h2
        rw [hσ]; exact h2
      · obtain ⟨al, hal, hr, hpo, hrel⟩ := hal
        obtain ⟨q', hq', Kq⟩ := K al hal
        unfold zx_ca at hq'
        split at hq'
        · rename_i r hrs
          obtain ⟨q1, rf⟩ := r
          split at hq'
          · rename_i pr hpr
            obtain ⟨q2, fs⟩ := pr
            have hq' := Option.some.inj hq'
            subst hq'
            have w0 : zs_wf (zx_c0 c.2.2.2.1 q (q.2.2.2.1.drop c.1.length)) := ⟨hw.1, hw.2.1, wS0, fun e he => hw.2.2.2.1 e (List.mem_filter.mp he).1, hw.2.2.2.2⟩
            have o0 : zs_ok D RT ro Ga nL (zx_c0 c.2.2.2.1 q (q.2.2.2.1.drop c.1.length)) v H' ls b := by
              refine ⟨h.1, h.2.1, h.2.2.1, hb, fun e he => ?_, h.2.2.2.2.2⟩
              obtain ⟨m1, m2⟩ := List.mem_filter.mp he
              obtain ⟨a', ci, n, gs, g1, g2, g3, g4, g5⟩ := h.2.2.2.2.1 e m1
              refine ⟨a', ci, n, gs, g1, g2, g3, g4, ?_⟩
              have := hkp.1 a' e.1.2.1 e.1.2.2 ci n gs g2 g3 g4 (fun hm => by
                have : (c.2.2.2.1.any (fun p => Nat.beq p.1 e.1.2.1 && Nat.beq p.2 e.1.2.2)) = true := List.any_eq_true.mpr ⟨_, hm, by simp⟩
                rw [this] at m2
                cases m2)
              rw [this]; exact g5
            obtain ⟨v1, r1, r2, r3, r4, r5, r6⟩ := zx_rs_ok hrs w0 o0 hr
            have hvs1 : zs_st ro v1 vs zs := zs_st_mono (n := q.1.length) r4 wzs hvs
            have el0 : (zx_c0 c.2.2.2.1 q (q.2.2.2.1.drop c.1.length)).1.length = q.1.length := rfl
            rw [el0] at r3
            have wzs1 : ∀ z ∈ zs, zv_wf q1.1.length z := fun z hz => zl_wf.mono (wzs z hz) r3
            have hpk : ∀ p ∈ c.2.2.2.2.1, ∃ (ci n : Nat) (gs : List zt_T), RT[p.2.1]? = some (0, ci, n, gs) ∧ p.2.2 < gs.length := by
              intro p hp
              have h1 := List.all_eq_true.mp hk p hp
              split at h1
              · rename_i ci n gs hg
                exact ⟨ci, n, gs, hg, Nat.le_of_ble_eq_true h1⟩
              · cases h1
            obtain ⟨v2, k1, k2, k3, k4, k5, k6⟩ := zx_po_ok hpr r1 r2 hvs1 wzs1 hpk hpo
            have ag : ∀ g, zl_wf q.1.length g → zl_at v2 g = zl_at v g := fun g hg => by rw [k4 g (hg.mono r3), r4 g hg]
            have m1 : zs.map (fun z => z.2) |>.map (zl_at v2) |> (· = zs.map (fun z => zl_at v z.2)) := by
              rw [List.map_map]
              exact List.map_congr_left (fun z hz => ag z.2 (wzs z hz))
            have m2 : ys.map (fun z => z.2) |>.map (zl_at v2) |> (· = ys.map (fun z => zl_at v z.2)) := by
              rw [List.map_map]
              exact List.map_congr_left (fun z hz => ag z.2 (p3 z hz))
            have henv : (zs.map (fun z => z.2) ++ ys.map (fun z => z.2) ++ rf :: fs).map (zl_at v2) = zc_env D RT c H H' vs x := by
              unfold zc_env
              rw [List.map_append, List.map_append, m1, m2, List.map_cons, k5, k4 rf r6, r5, t2, p2]
            have w3 : ∀ g ∈ (zs.map (fun z => z.2) ++ ys.map (fun z => z.2) ++ rf :: fs), zl_wf q2.1.length g := by
              intro g hg
              have l2 : q.1.length ≤ q2.1.length := Nat.le_trans r3 k3
              rcases List.mem_append.mp hg with hg | hg
              · rcases List.mem_append.mp hg with hg | hg
                · obtain ⟨z, hz, rfl⟩ := List.mem_map.mp hg
                  exact zl_wf.mono (wzs z hz) l2
                · obtain ⟨z, hz, rfl⟩ := List.mem_map.mp hg
                  exact zl_wf.mono (p3 z hz) l2
              · rcases List.mem_cons.mp hg with e | e
                · rw [e]; exact r6.mono k3
                · exact k6 g e
            refine Kq (zx_fold_wf k1 (fun g hg => ?_)) v2 H' locs' ls _ (zx_fold_ok k2 (fun g hg => ?_)) hh'
            · obtain ⟨f, hf, rfl⟩ := List.mem_map.mp hg
              exact zl_sB_wf f w3
            · obtain ⟨f, hf, rfl⟩ := List.mem_map.mp hg
              rw [zl_sB_at, henv]
              exact hrel f hf
          · cases hq'
        · cases hq'
    · cases hp
  · cases hp
end ZCT
