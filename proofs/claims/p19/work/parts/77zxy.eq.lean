/-! p19: the class's forms, as the code goes, and as they are held against the reference -/
section EQF
variable {T L : List Int}
def rOK (T : List Int) (s : uS) : Prop := ∃ w b r, RP T w b s r
theorem rOK_mk {s : uS} (h : (s.2.1 = 0 ∧ 0 ≤ s.1 ∧ s.1 ≤ (T.length : Int)) ∨ (s.2.1 = 1 ∧ 0 ≤ s.1)) : rOK T s := by
  rcases h with h | h
  · exact ⟨s.2.2, 1000, (s.1, -1, 1000), rfl, rfl, Or.inl ⟨h.1, rfl, rfl, h.2.1, h.2.2⟩⟩
  · exact ⟨s.2.2, 1000, (s.1, s.1, 1000), rfl, rfl, Or.inr ⟨h.1, rfl, h.2⟩⟩
theorem rOK_u {s : uS} (h : uOK T s) : rOK T s := by
  unfold uOK at h
  refine rOK_mk ?_
  omega
theorem dq_ds {f g : fN} {lo hi : Int} {s : uS} (h : DP f g lo hi) (hlo : 0 ≤ lo) (hg : s.2.1 = 0 ∧ s.2.2 < 0) : dqF f s = if 0 ≤ dsB f then (NONEI, blF (dsB f) s) else (dsD f, s) := by
  obtain ⟨⟨k1, k2, k3⟩, h2, h4, h5, hy, hA, hB, hC, hD⟩ := h
  unfold dqF dsB dsD
  rw [if_pos hg]
  by_cases nz : f 4 = 1 ∧ f 5 = 0
  · have y := hy (Or.inl nz)
    simp only [if_pos nz]
    rw [if_pos (show 0 ≤ f 2 by omega)]
  · simp only [if_neg nz]
    by_cases w : f 0 = 1 ∨ f 0 = 5
    · have y := hy (Or.inr w)
      have a := hA (by omega)
      simp only [if_pos w]
      unfold dwF
      by_cases c1 : f 7 < 1 ∨ wkI (tlF f) < f 7
      · simp only [if_pos c1]
        rw [if_pos (show 0 ≤ f 6 by omega)]
      · simp only [if_neg c1]
        by_cases c2 : f 9 < 1 ∨ 7 < f 9
        · have z : f 0 = 1 := by
            apply Decidable.byContradiction
            intro q
            have := hD (Or.inr (by omega))
            omega
          have b := hB (Or.inr z)
          simp only [if_pos c2]
          rw [if_pos (show 0 ≤ f 8 by omega)]
        · simp only [if_neg c2]
          by_cases c3 : -365961662 ≤ fwI (tlF f) + 7 * (f 7 - 1) + f 9 - 1 ∧ fwI (tlF f) + 7 * (f 7 - 1) + f 9 - 1 ≤ 364522971
          · simp only [if_pos c3]
            rw [if_neg (show ¬ (0 : Int) ≤ -1 by decide)]
          · simp only [if_neg c3]
            rw [if_pos (show 0 ≤ f 2 by omega)]
    · simp only [if_neg w]
      by_cases o : f 0 = 2
      · have a := hA (by omega)
        simp only [if_pos o]
        by_cases c1 : 1 ≤ f 7 ∧ f 7 ≤ 365 + lpI (tlF f)
        · simp only [if_pos c1]
          rw [if_neg (show ¬ (0 : Int) ≤ -1 by decide)]
        · simp only [if_neg c1]
          rw [if_pos (show 0 ≤ f 6 by omega)]
      · simp only [if_neg o]
        by_cases c1 : f 7 < 1 ∨ 12 < f 7
        · have z : f 0 ≠ 3 := fun q => by have := hC q; omega
          have a := hA z
          simp only [if_pos c1]
          rw [if_pos (show 0 ≤ f 6 by omega)]
        · simp only [if_neg c1]
          by_cases c2 : 1 ≤ f 9 ∧ f 9 ≤ mlI (tlF f) (f 7)
          · simp only [if_pos c2]
            rw [if_neg (show ¬ (0 : Int) ≤ -1 by decide)]
          · have m1 := ml_1 (y := tlF f) (m := f 7) (by omega) (by omega)
            have z : f 0 = 0 := by
              apply Decidable.byContradiction
              intro q
              by_cases z3 : f 0 = 3
              · have := hC z3; omega
              · have := hD (Or.inl (by omega)); omega
            have b := hB (Or.inl z)
            have a := hA (by omega)
            simp only [if_neg c2]
            rw [if_pos (show 0 ≤ f 8 by omega)]
theorem tq_ts {f g : fN} {lo hi day : Int} {s : uS} (h : TP f g lo hi) (hlo : 0 ≤ lo) : tqF L day f s = bl0F (tsB L day f) s := by
  obtain ⟨m, ⟨a1, a2, a3, a4, a5, a6, a7, a8, a9, b1, b2, b3⟩, hm, hz⟩ := h
  have bl : ∀ {p : Int}, 0 ≤ p → blF p s = bl0F p s := fun hp => by unfold bl0F; rw [if_pos hp]
  have z10 : 23 < f 11 → 0 ≤ f 10 := by
    intro q
    rcases hz with z | z
    · have := z.2.2.2.1 (by omega); omega
    · omega
  have z12 : 59 < f 13 → 0 ≤ f 12 := by
    intro q
    rcases hz with z | z
    · have := z.2.2.2.2.1 (by omega); omega
    · omega
  have l59 : 59 ≤ lsF9 L day f := by
    unfold lsF9
    split
    · rcases lsR_01 L (day * 1440 + f 1 * 60 + f 3 - otF f) with e | e <;> omega
    · omega
  unfold tqF tq2F tsB
  by_cases c1 : 24 < f 1 ∨ (f 1 = 24 ∧ (¬ (f 3 = 0 ∧ f 5 = 0 ∧ f 6 = 0) ∨ day = 364522971))
  · rw [if_pos c1, if_pos c1]
    exact bl (by omega)
  · rw [if_neg c1, if_neg c1]
    by_cases c2 : 59 < f 3
    · rw [if_pos c2, if_pos c2]
      exact bl (by have := a6 (by omega); omega)
    · rw [if_neg c2, if_neg c2]
      by_cases c3 : lsF9 L day f < f 5
      · rw [if_pos c3, if_pos c3]
        exact bl (by have := a8 (by omega); omega)
      · rw [if_neg c3, if_neg c3]
        by_cases c4 : 23 < f 11
        · rw [if_pos c4, if_pos c4]
          exact bl (z10 c4)
        · rw [if_neg c4, if_neg c4]
          by_cases c5 : 59 < f 13
          · rw [if_pos c5, if_pos c5]
            exact bl (z12 c5)
          · rw [if_neg c5, if_neg c5]
            unfold bl0F
            rw [if_neg (by decide)]
theorem sg_se {fd ft gd gt : fN} {s : uS} (h : s.2.1 = 0 → (∃ lo hi, DP fd gd lo hi ∧ 0 ≤ lo) ∧ ∃ lo hi, TP ft gt lo hi ∧ 0 ≤ lo) : sgF L fd ft s = seF L fd ft s := by
  unfold sgF seF
  by_cases hg : s.2.1 = 0 ∧ s.2.2 < 0
  · obtain ⟨⟨lo, hi, hd, hlo⟩, lo', hi', ht, hlo'⟩ := h hg.1
    have e := dq_ds (s := s) hd hlo hg
    rw [if_pos hg, e]
    obtain ⟨l1, l2, l3, l4, l5, l6⟩ := ld_same hd hlo
    by_cases c : 0 ≤ dsB fd
    · rw [if_pos c, if_pos c]
      dsimp only
      rw [if_pos rfl]
    · rw [if_neg c, if_neg c]
      dsimp only
      have q := l4 (by omega)
      rw [if_neg (show ¬ dsD fd = NONEI by unfold NONEI; omega)]
      exact tq_ts ht hlo'
  · have e : dqF fd s = (NONEI, s) := by unfold dqF; rw [if_neg hg]
    rw [if_neg hg, e]
    dsimp only
    rw [if_pos rfl]
theorem mq_mo {fd ft : fN} {s : uS} (h : rOK T s) : mqF T L (fd, ft, s) = moF T L (fd, ft, s) := by
  obtain ⟨w, b, r, h⟩ := h
  obtain ⟨b', d1, d2, d3⟩ := dt_same (x := (fd, s)) (y := (clG 3, r)) (wh := 1) h (Or.inr rfl)
  have hk := drG_k (T := T) (wh := 1) (x := (clG 3, r))
  have hc := cl_0 3
  unfold mqF moF
  dsimp only at d1 d2 d3 hk ⊢
  generalize dtF T 1 (fd, s) = D at d1 d2 d3 ⊢
  generalize drG T 1 (clG 3, r) = E at d1 d3 hk
  have x1 := d1.expect (c := 84) (by decide)
  have x2 : bs D.2 (ndF T 84 D.2) := ndF_bs
  have t := tm_same (x := (ft, ndF T 84 D.2)) (y := exS T 84 E) (mk := if D.1 1 = 1 then 1 else 2) (mo := if hdG T (clG 3, r) = 1 then 1 else 2) x1 (fun q => by rw [(d3 (x2 q).1).2.1]) ⟨(hk 11 (by decide)).trans hc.1, (hk 13 (by decide)).trans hc.2.1, (hk 16 (by decide)).trans hc.2.2.1, (hk 17 (by decide)).trans hc.2.2.2.1, (hk 20 (by decide)).trans hc.2.2.2.2.1⟩
  obtain ⟨t1, t2, t3⟩ := t
  dsimp only at t1 t2 t3
  generalize tmF9 T (if D.1 1 = 1 then 1 else 2) (ft, ndF T 84 D.2) = F at t1 t2 t3 ⊢
  generalize trG T (if hdG T (clG 3, r) = 1 then 1 else 2) (exS T 84 E) = G at t1 t3
  rw [sg_se (L := L) (fd := D.1) (ft := F.1) (gd := E.1) (gt := G.1) (s := F.2) (fun q => by
    have y2 := t2 q
    have y1 := x2 y2.1
    have y0 := d2 y1.1
    have g0 := h.good y0.1
    have q1 := (d3 y1.1).1
    exact ⟨⟨_, _, q1, g0.2.2.1⟩, _, _, (t3 q).1, by have a0 := y0.2; have a1 := y1.2; omega⟩)]
set_option maxRecDepth 100000 in
theorem sq_sm {fd ft : fN} {s : uS} (h : rOK T s) : sqqF T L (fd, ft, s) = smF T L (fd, ft, s) := by
  obtain ⟨w, b, r, h⟩ := h
  obtain ⟨d1, d2, d3⟩ := df_same (x := (fd, s)) (y := (clG 0, r)) h
  have hk := rp1_k (T := T) (x := (clG 0, r))
  have hc := cl_0 0
  have e : smF T L (fd, ft, s) = ((dfF T (fd, s)).1, (tfF T (ft, spF T (dfF T (fd, s)).2)).1, seF L (dfF T (fd, s)).1 (tfF T (ft, spF T (dfF T (fd, s)).2)).1 (tfF T (ft, spF T (dfF T (fd, s)).2)).2) := by
    unfold smF spF
    rfl
  have e2 : sqqF T L (fd, ft, s) = ((dfF T (fd, s)).1, (tfF T (ft, spF T (dfF T (fd, s)).2)).1, sgF L (dfF T (fd, s)).1 (tfF T (ft, spF T (dfF T (fd, s)).2)).1 (tfF T (ft, spF T (dfF T (fd, s)).2)).2) := by
    unfold sqqF sq2F spq spF
    rfl
  rw [e, e2]
  dsimp only at d1 d2 d3 hk
  generalize dfF T (fd, s) = D at d1 d2 d3 ⊢
  generalize rp1G T (clG 0, r) = E at d1 d3 hk
  obtain ⟨x1, x2⟩ := sp_same d1
  have t := tf_same (x := (ft, spF T D.2)) (y := rpS T E) x1 ⟨(hk 11 (by decide)).trans hc.1, (hk 13 (by decide)).trans hc.2.1, (hk 16 (by decide)).trans hc.2.2.1, (hk 17 (by decide)).trans hc.2.2.2.1, (hk 20 (by decide)).trans hc.2.2.2.2.1⟩
  obtain ⟨t1, t2, t3⟩ := t
  dsimp only at t1 t2 t3
  generalize tfF T (ft, spF T D.2) = F at t1 t2 t3 ⊢
  generalize rp4G T (rp3G T (rp2G T (rpS T E))) = G at t1 t3
  rw [sg_se (L := L) (fd := D.1) (ft := F.1) (gd := E.1) (gt := G.1) (s := F.2) (fun q => by
    have y2 := t2 q
    have y1 := x2 y2.1
    have y0 := d2 y1.1
    have g0 := h.good y0.1
    have q1 := (d3 y1.1).1
    exact ⟨⟨_, _, q1, g0.2.2.1⟩, _, _, (t3 q).1, by have a0 := y0.2; have a1 := y1.2; omega⟩)]
theorem rOK_nd {c : Int} {s : uS} (hc : 0 ≤ c) (h : rOK T s) : rOK T (ndF T c s) := by
  obtain ⟨w, b, r, h⟩ := h
  exact ⟨w, b, exG T c r, h.expect hc⟩
theorem rOK_du {s : uS} (h : rOK T s) : rOK T (duF T s) := by
  obtain ⟨w, b, r, h⟩ := h
  obtain ⟨⟨p, -, p2⟩, -, -⟩ := du_same h
  exact ⟨_, _, _, p2⟩
theorem rOK_mo {fd ft : fN} {s : uS} (hL : ∀ d ∈ L, -365961662 ≤ d ∧ d ≤ 364522971) (h : rOK T s) (hs : 0 ≤ s.1) : rOK T (moF T L (fd, ft, s)).2.2 := by
  obtain ⟨w, b, r, h⟩ := h
  obtain ⟨⟨w', b', p⟩, -, -⟩ := mo_part (fd := fd) (ft := ft) hL h hs
  exact ⟨_, _, _, p⟩
theorem rOK_0 {s : uS} (h : rOK T s) : 0 ≤ s.1 := by
  obtain ⟨w, b, r, h⟩ := h
  rcases h.b01 with q | q
  · exact (h.good q).2.2.1
  · exact (h.brk q).2
theorem iq_in {fd ft : fN} {s : uS} (hL : ∀ d ∈ L, -365961662 ≤ d ∧ d ≤ 364522971) (h : rOK T s) : iqF T L (fd, ft, s) = inF T L (fd, ft, s) := by
  have m := mq_mo (L := L) (fd := fd) (ft := ft) h
  have r1 := rOK_nd (T := T) (c := 47) (by decide) (rOK_du h)
  have r2 := rOK_nd (T := T) (c := 47) (by decide) (rOK_mo (fd := fd) (ft := ft) hL h (rOK_0 h))
  unfold iqF inF
  dsimp only
  rw [m, mq_mo r1]
  split
  · rfl
  · split
    · rfl
    · exact mq_mo r2
/-- what the class's read() comes to -/
def rqF (T L : List Int) (fo : Int) (x : mS) : uS :=
  if fo = 0 then (sqqF T L x).2.2 else if fo = 1 then (dqqF T x).2.2 else if fo = 2 then (tqqF T L x).2.2 else if fo = 3 then (mqF T L x).2.2 else if fo = 4 then duF T x.2.2
  else if fo = 5 then (iqF T L x).2.2 else (iqF T L (cqF T x)).2.2
theorem ne_same {S S' : uS} (h1 : S'.1 = S.1) (h2 : S'.2.1 = S.2.1) (h3 : S.2.1 = 0 → S' = S) (hb : S.2.1 = 0 ∨ S.2.1 = 1) : vdF (neF T S') = vdF (neF T S) := by
  rcases hb with q | q
  · rw [h3 q]
  · unfold neF
    rw [if_neg (fun z => by omega), if_neg (fun z => by omega)]
    unfold vdF flF
    dsimp only
    rw [if_pos (by decide), if_pos (by decide), h1]
theorem bl_1 {p : Int} {s : uS} : (blF p s).1 = s.1 ∧ (blF p s).2.1 = s.2.1 := ⟨blF_at _ _, bl_b⟩
theorem tq_at {day : Int} {f : fN} {s : uS} : (tqF L day f s).1 = s.1 ∧ (tqF L day f s).2.1 = s.2.1 := by
  unfold tqF tq2F
  split
  · exact bl_1
  · split
    · exact bl_1
    · split
      · exact bl_1
      · split
        · exact bl_1
        · split
          · exact bl_1
          · exact ⟨rfl, rfl⟩
theorem rq_rd {fo : Int} {fd ft : fN} (hL : ∀ d ∈ L, -365961662 ≤ d ∧ d ≤ 364522971) : vdF (neF T (rqF T L fo (fd, ft, (0, 0, -1)))) = rdV T L fo fd ft := by
  have h : RP T (-1) 1000 (0, 0, -1) r0S := ⟨rfl, rfl, Or.inl ⟨rfl, rfl, rfl, by decide, by show (0 : Int) ≤ (T.length : Int); omega⟩⟩
  have h0 : rOK T (0, 0, -1) := ⟨_, _, _, h⟩
  unfold rqF rdV rdF
  by_cases f0 : fo = 0
  · rw [if_pos f0, if_pos f0, sq_sm h0]
  · rw [if_neg f0, if_neg f0]
    by_cases f1 : fo = 1
    · rw [if_pos f1, if_pos f1]
      dsimp only
      obtain ⟨b', d1, d2, d3⟩ := dt_same (x := (fd, ((0, 0, -1) : uS))) (y := (clG 1, r0S)) (wh := 0) h (Or.inl rfl)
      show vdF (neF T (dqF (dtF T 0 (fd, (0, 0, -1))).1 (dtF T 0 (fd, (0, 0, -1))).2).2) = _
      dsimp only at d1 d2 d3
      generalize dtF T 0 (fd, (0, 0, -1)) = D at d1 d2 d3 ⊢
      congr 2
      by_cases hg : D.2.2.1 = 0 ∧ D.2.2.2 < 0
      · rw [if_pos hg, dq_ds (s := D.2) (d3 hg.1).1 (by decide) hg]
        unfold bl0F
        split
        · rfl
        · rfl
      · rw [if_neg hg]
        unfold dqF
        rw [if_neg hg]
    · rw [if_neg f1, if_neg f1]
      by_cases f2 : fo = 2
      · rw [if_pos f2, if_pos f2]
        dsimp only
        obtain ⟨k1, k2, k3⟩ := h.take (c := 84) (by decide)
        have hc := cl_0 2
        obtain ⟨t1, t2, t3⟩ := tm_same (x := (ft, (tkF T 84 (0, 0, -1)).2)) (y := (clG 2, (tkG T 84 r0S).2)) (mk := 0) (mo := 0) k2 (fun _ => rfl) ⟨hc.1, hc.2.1, hc.2.2.1, hc.2.2.2.1, hc.2.2.2.2.1⟩
        show vdF (neF T (tqF L NONEI (tmF9 T 0 (ft, (tkF T 84 (0, 0, -1)).2)).1 (tmF9 T 0 (ft, (tkF T 84 (0, 0, -1)).2)).2)) = _
        dsimp only at t1 t2 t3
        generalize tmF9 T 0 (ft, (tkF T 84 (0, 0, -1)).2) = F at t1 t2 t3 ⊢
        have sa := bl0_at (p := tsB L NONEI F.1) (s := F.2)
        have sb := tq_at (L := L) (day := NONEI) (f := F.1) (s := F.2)
        refine ne_same (by rw [sb.1, sa.1]) (by rw [sb.2, sa.2.1]) (fun q => ?_) (by rw [sa.2.1]; exact t1.b01)
        rw [sa.2.1] at q
        have g := k2.good (t2 q).1
        exact tq_ts (t3 q).1 g.2.2.1
      · rw [if_neg f2, if_neg f2]
        by_cases f3 : fo = 3
        · rw [if_pos f3, if_pos f3, mq_mo h0]
        · rw [if_neg f3, if_neg f3]
          by_cases f4 : fo = 4
          · rw [if_pos f4, if_pos f4]
          · rw [if_neg f4, if_neg f4]
            by_cases f5 : fo = 5
            · rw [if_pos f5, if_pos f5, iq_in hL h0]
            · rw [if_neg f5, if_neg f5]
              dsimp only
              have e : cqF T (fd, ft, (0, 0, -1)) = (fd, ft, coF T (0, 0, -1)) := rfl
              rw [e]
              have h1 := h.expect (c := 82) (by decide)
              have r1 : rOK T (if 0 ≤ dgF T (ndF T 82 (0, 0, -1)) then (nbF T 1 9 0 0 (ndF T 82 (0, 0, -1))).2 else ndF T 82 (0, 0, -1)) := by
                split
                · rename_i d
                  exact ⟨_, _, _, (dc_same h1 d).1⟩
                · exact ⟨_, _, _, h1⟩
              have r2 : rOK T (coF T (0, 0, -1)) := rOK_nd (T := T) (c := 47) (by decide) r1
              rw [iq_in hL r2]
end EQF
