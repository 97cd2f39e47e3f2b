/-! arrays, null tests -/
section ZR
variable {D : va_G} {cA : Nat → ClassId} {RT : List zr_R} {ro : Nat → Option Nat} {sz : Nat} {H0 : Heap} {Ga : List Int} {nL : Nat} {G : zg_G} {pc pc' : Nat} {q : zs_S}
theorem zv_rf {v : Nat → Int} {x : Value} {r : Nat} {f : zl_F} (h : zv_ok ro v x (4 + 2 * r, f)) : zv_ref ro v f r x := by
  rw [show 4 + 2 * r = 2 * r + 4 by omega] at h
  rcases h with ⟨h5, -⟩ | h5
  · omega
  · rw [show 2 * r / 2 = r by omega] at h5; exact h5
theorem zi_alen {r kd ti n : Nat} {t : zt_T} {f : zl_F} {S : List zv_V} (hS : q.2.2.2.1 = (4 + 2 * r, f) :: S) (hr : RT[r]? = some (kd + 1, ti, n, [t])) (hn : n < 2147483648)
    (row : ∀ H locs ls st a (cell : Cell), H[a]? = some cell → zh_ca cA ti n cell → G pc' H locs ls (.int (nI n) :: st) → G pc H locs ls (.ref a :: st))
    (K : zw D cA RT ro sz H0 Ga nL G pc' (zq_S q ((0, zl_k n) :: S))) : zw D cA RT ro sz H0 Ga nL G pc q := by
  intro hw v H locs ls st h hh
  have hst := h.2.2.2.1
  rw [hS] at hst
  match st, hst with
  | x0 :: st, hst =>
    have wS : ∀ z ∈ S, zv_wf q.1.length z := fun z hz => hw.2.2.1 z (by rw [hS]; exact List.mem_cons_of_mem _ hz)
    obtain ⟨a, hx0, ha, -⟩ := zv_rf hst.1
    subst hx0
    obtain ⟨cell, z, h1, h6, -⟩ := zh_arrR hh ha hr
    refine row _ _ _ _ a cell h1 h6 (K (zq_S_wf hw (fun y hy => ?_)) v H locs ls _ (zq_S_ok h ⟨⟨nI n, rfl, ?_⟩, hst.2⟩) hh)
    · rcases List.mem_cons.mp hy with e | e
      · rw [e]; exact zl_k_wf
      · exact wS y e
    · rw [zl_k_at]; exact nI_toInt hn
theorem zi_ald {r kd ti n : Nat} {t : zt_T} {f g : zl_F} {S : List zv_V} (hS : q.2.2.2.1 = (0, g) :: (4 + 2 * r, f) :: S) (hr : RT[r]? = some (kd + 1, ti, n, [t])) (hin : zx_in q 0 ((n : Int) - 1) g = true) (h2 : t.1 ≠ 2) (h3 : t.1 ≠ 3)
    (row : ∀ H locs ls st a (cell : Cell) (x : Value) (j : Int32), vp_in j cell.slots.size → zt_ok ro x t → H[a]? = some cell → zh_ca cA ti n cell → cell.slots[j.toNatClampNeg]? = some x → G pc' H locs ls (x :: st) → G pc H locs ls (.int j :: .ref a :: st))
    (K : zw D cA RT ro sz H0 Ga nL G pc' (zx_ft t q S)) : zw D cA RT ro sz H0 Ga nL G pc q := by
  intro hw v H locs ls st h hh
  have hst := h.2.2.2.1
  rw [hS] at hst
  match st, hst with
  | xi :: x0 :: st, hst =>
    have wS : ∀ z ∈ S, zv_wf q.1.length z := fun z hz => hw.2.2.1 z (by rw [hS]; exact List.mem_cons_of_mem _ (List.mem_cons_of_mem _ hz))
    obtain ⟨a, hx0, ha, -⟩ := zv_rf hst.2.1
    obtain ⟨j, hj, ej⟩ := hst.1
    subst hx0
    subst hj
    obtain ⟨cell, z, h1, h6, h4⟩ := zh_arrR hh ha hr
    have hb := zx_in_ok h hin
    have ej : j.toInt = zl_at v g := ej
    have hv : vp_in j n := vp_in_iff.mpr ⟨by omega, by omega⟩
    have hlt : j.toNatClampNeg < n := Nat.not_le.mp fun q => hv (Or.inr q)
    obtain ⟨y, h5⟩ := zx_ft_ok (t := t) hw wS h hst.2.2 (h4 _ hlt).2 h2 h3
    exact row _ _ _ _ a cell _ j (fun g => hv (g.imp id (Nat.le_trans h6.2.2.2.1))) (h4 _ hlt).2 h1 h6 (h4 _ hlt).1 (K (zx_ft_wf hw wS) _ H locs ls _ h5 hh)
theorem zi_ast {r ti n : Nat} {t : zt_T} {f g : zl_F} {zx : zv_V} {S : List zv_V} (hS : q.2.2.2.1 = zx :: (0, g) :: (4 + 2 * r, f) :: S) (hr : RT[r]? = some (1, ti, n, [t])) (hin : zx_in q 0 ((n : Int) - 1) g = true) (ht : zx_ty q zx t = true)
    (row : ∀ H locs ls st a z (j : Int32) x, ro a = some r → vp_in j n → zt_ok ro x t → H[a]? = some (arrV (cA ti) n z) → (∀ H' : Heap, H'[a]? = some (arrV (cA ti) n (updV z j.toNatClampNeg x)) → H'.size = H.size → (∀ q, q ≠ a → H'[q]? = H[q]?) → G pc' H' (locs ++ [⟨a, j.toNatClampNeg⟩]) ls st) → G pc H locs ls (x :: .int j :: .ref a :: st))
    (K : zw D cA RT ro sz H0 Ga nL G pc' (zq_S q S)) : zw D cA RT ro sz H0 Ga nL G pc q := by
  intro hw v H locs ls st h hh
  have hst := h.2.2.2.1
  rw [hS] at hst
  match st, hst with
  | x :: xi :: x0 :: st, hst =>
    have wS : ∀ z ∈ S, zv_wf q.1.length z := fun z hz => hw.2.2.1 z (by rw [hS]; exact List.mem_cons_of_mem _ (List.mem_cons_of_mem _ (List.mem_cons_of_mem _ hz)))
    obtain ⟨a, hx0, ha, -⟩ := zv_rf hst.2.2.1
    obtain ⟨j, hj, ej⟩ := hst.2.1
    subst hx0
    subst hj
    obtain ⟨hsa, z, h1, h4⟩ := zh_arr hh ha hr
    have hb := zx_in_ok h hin
    have ej : j.toInt = zl_at v g := ej
    have hv : vp_in j n := vp_in_iff.mpr ⟨by omega, by omega⟩
    have hx := zx_ty_ok h hst.1 ht
    refine row _ _ _ _ a z j x ha hv hx h1 (fun H' e1 e2 e3 => K (zq_S_wf hw wS) v H' _ ls st ?_ ⟨?_, ?_, ?_, ?_⟩)
    · have h6 := zq_S_ok h hst.2.2.2
      refine ⟨h6.1, h6.2.1, h6.2.2.1, h6.2.2.2.1, fun e he => ?_, h6.2.2.2.2.2⟩
      obtain ⟨a', ci', n', fs', g1, g2, g3, g4, g5⟩ := h6.2.2.2.2.1 e he
      refine ⟨a', ci', n', fs', g1, g2, g3, g4, ?_⟩
      have hne : a' ≠ a := fun q => by
        subst q
        have er := Option.some.inj (g2.symm.trans ha)
        rw [er] at g3
        cases g3.symm.trans hr
      rw [show zh_f D H' a' ci' e.1.2.2 = zh_f D H a' ci' e.1.2.2 by simp only [zh_f, e3 a' hne]]
      exact g5
    · rw [e2]; exact hh.1
    · intro i hi
      rw [e3 i (Nat.ne_of_lt (Nat.lt_of_lt_of_le hi hsa))]; exact hh.2.1 i hi
    · intro l hl
      rcases List.mem_append.mp hl with g | g
      · exact hh.2.2.1 l g
      · rw [List.mem_singleton.mp g]; exact hsa
    · intro b rb hb
      obtain ⟨ee, g2, g1, g3⟩ := hh.2.2.2 b rb hb
      refine ⟨ee, g2, g1, ?_⟩
      by_cases eb : b = a
      · subst eb
        cases hb.symm.trans ha
        cases g2.symm.trans hr
        refine ⟨_, e1, fun t' ht' i hi => ?_⟩
        cases ht'
        unfold updV
        split
        · exact hx
        · exact h4 i hi
      · unfold zh_cell at g3 ⊢
        rw [e3 b eb]
        exact g3
/-- what is of the form f and of kind 5 + 2 r becomes of kind 4 + 2 r -/
def zx_nn (r : Nat) (f : zl_F) (z : zv_V) : zv_V := match Nat.beq z.1 (5 + 2 * r), zx_un f, zx_un z.2 with
  | true, some i, some j => (match Nat.beq i j with
    | true => (4 + 2 * r, z.2)
    | false => z)
  | _, _, _ => z
theorem zx_nn_ok {v : Nat → Int} {r : Nat} {f : zl_F} {x : Value} {z : zv_V} (hf : ¬ zl_at v f = -1) (h : zv_ok ro v x z) : zv_ok ro v x (zx_nn r f z) := by
  unfold zx_nn
  split
  · rename_i i j e1 e2 e3
    split
    · rename_i e4
      have e1 := Nat.eq_of_beq_eq_true e1
      have e4 := Nat.eq_of_beq_eq_true e4
      obtain ⟨k, g⟩ := z
      dsimp only at e1 e3 ⊢
      subst e1 e4
      rw [show 5 + 2 * r = 2 * r + 1 + 4 by omega] at h
      rw [show 4 + 2 * r = 2 * r + 4 by omega]
      rcases h with ⟨-, -, h3⟩ | h3
      · rw [zx_un_at e2] at hf
        dsimp only at h3
        rw [zx_un_at e3] at h3
        exact absurd h3 hf
      · rw [show (2 * r + 1) / 2 = r by omega] at h3
        exact Or.inr (by rw [show 2 * r / 2 = r by omega]; exact h3)
    · exact h
  · exact h
theorem zx_nn_wf {n r : Nat} {f : zl_F} {z : zv_V} (h : zv_wf n z) : zv_wf n (zx_nn r f z) := by
  unfold zx_nn
  split
  · split
    · exact h
    · exact h
  · exact h
def zx_nN (r : Nat) (f : zl_F) (q : zs_S) (S : List zv_V) : zs_S := (q.1, q.2.1, q.2.2.1.map (fun e => (e.1, zx_nn r f e.2)), S.map (zx_nn r f), q.2.2.2.2.1.map (fun e => (e.1, zx_nn r f e.2)), q.2.2.2.2.2)
theorem zx_nN_wf {r : Nat} {f : zl_F} {S : List zv_V} (h : zs_wf q) (hS : ∀ z ∈ S, zv_wf q.1.length z) : zs_wf (zx_nN r f q S) := by
  refine ⟨h.1, fun e he => ?_, fun z hz => ?_, fun e he => ?_, h.2.2.2.2⟩
  · obtain ⟨y, h1, h2⟩ := List.mem_map.mp he
    rw [← h2]; exact zx_nn_wf (h.2.1 y h1)
  · obtain ⟨y, h1, h2⟩ := List.mem_map.mp hz
    rw [← h2]; exact zx_nn_wf (hS y h1)
  · obtain ⟨y, h1, h2⟩ := List.mem_map.mp he
    rw [← h2]; exact ⟨(h.2.2.2.1 y h1).1, zx_nn_wf (h.2.2.2.1 y h1).2⟩
theorem zs_nn {v : Nat → Int} {r : Nat} {f : zl_F} (hf : ¬ zl_at v f = -1) : ∀ {st : List Value} {S : List zv_V}, zs_st ro v st S → zs_st ro v st (S.map (zx_nn r f))
  | [], [], h => h
  | [], _ :: _, h => h
  | _ :: _, [], h => h
  | _ :: _, _ :: _, h => ⟨zx_nn_ok hf h.1, zs_nn hf h.2⟩
theorem zx_nN_ok {r : Nat} {f : zl_F} {S : List zv_V} {v : Nat → Int} {H : Heap} {ls : Array Slot} {st st' : List Value} (h : zs_ok D RT ro Ga nL q v H ls st) (hS : zs_st ro v st' S) (hf : ¬ zl_at v f = -1) : zs_ok D RT ro Ga nL (zx_nN r f q S) v H ls st' := by
  obtain ⟨hB, hC, ⟨lv, hlv, hL⟩, -, hF, hG⟩ := h
  refine ⟨hB, hC, ⟨lv, hlv, fun e he => ?_⟩, zs_nn hf hS, fun e he => ?_, hG⟩
  · obtain ⟨y, h1, h2⟩ := List.mem_map.mp he
    obtain ⟨x, h3, h4⟩ := hL y h1
    rw [← h2]; exact ⟨x, h3, zx_nn_ok hf h4⟩
  · obtain ⟨y, h1, h2⟩ := List.mem_map.mp he
    obtain ⟨a, ci, n, fs, g1, g2, g3, g4, g5⟩ := hF y h1
    rw [← h2]; exact ⟨a, ci, n, fs, g1, g2, g3, g4, zx_nn_ok hf g5⟩
/-- ifnull (b false), ifnonnull (b true), of what may be null: pn where it is, pr where it is not -/
theorem zi_nul {r pn pr : Nat} {f : zl_F} {S : List zv_V} (hS : q.2.2.2.1 = (5 + 2 * r, f) :: S)
    (rowN : ∀ H locs ls st, G pn H locs ls st → G pc H locs ls (.null :: st)) (rowR : ∀ H locs ls st a, G pr H locs ls st → G pc H locs ls (.ref a :: st))
    (Kn : zw D cA RT ro sz H0 Ga nL G pn (zq_S q S)) (Kr : zw D cA RT ro sz H0 Ga nL G pr (zx_nN r f q S)) : zw D cA RT ro sz H0 Ga nL G pc q := by
  intro hw v H locs ls st h hh
  have hst := h.2.2.2.1
  rw [hS] at hst
  match st, hst with
  | x0 :: st, hst =>
    have wS : ∀ z ∈ S, zv_wf q.1.length z := fun z hz => hw.2.2.1 z (by rw [hS]; exact List.mem_cons_of_mem _ hz)
    have h4 := hst.1
    rw [show 5 + 2 * r = 2 * r + 1 + 4 by omega] at h4
    rcases h4 with ⟨-, h5, -⟩ | ⟨a, h5, h6, h7⟩
    · subst h5
      exact rowN _ _ _ _ (Kn (zq_S_wf hw wS) v H locs ls st (zq_S_ok h hst.2) hh)
    · subst h5
      refine rowR _ _ _ _ a (Kr (zx_nN_wf hw wS) v H locs ls st (zx_nN_ok h hst.2 (fun e => ?_)) hh)
      dsimp only at h7
      omega
end ZR
