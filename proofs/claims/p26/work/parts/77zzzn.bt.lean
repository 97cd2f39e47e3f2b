/-! p26: between, bounds and the call's meaning -/
def inM (n a : Int) : Prop := msI a ≤ n ∧ n < msI a + lmI a
theorem cv_in {n y m d : Int} (h : cvP n y m d) : inM n (y * 12 + m - 1) := by
  obtain ⟨h1, h2, h3⟩ := cv_ms h
  exact ⟨by omega, by omega⟩
theorem inM_one {n a b : Int} (h : inM n a) (h' : inM n b) : a = b := by
  obtain ⟨h1, h2⟩ := h
  obtain ⟨g1, g2⟩ := h'
  rcases Int.lt_trichotomy a b with q | q | q
  · have := ms_lt q; omega
  · exact q
  · have := ms_lt q; omega
theorem inM_le {n n' a b : Int} (h : inM n a) (h' : inM n' b) (hn : n ≤ n') : a ≤ b := by
  obtain ⟨h1, h2⟩ := h
  obtain ⟨g1, g2⟩ := h'
  apply Decidable.byContradiction
  intro q
  have := ms_lt (a := b) (b := a) (by omega)
  omega
theorem inM_cv {n a : Int} (h : inM n a) : cvP n (a / 12) (a % 12 + 1) (n - msI a + 1) := by
  obtain ⟨h1, h2⟩ := h
  refine ⟨by omega, by omega, by omega, ?_, ?_⟩
  · show n - msI a + 1 ≤ lmI a
    omega
  · rw [nu_day]
    show msI a + (n - msI a + 1) - 1 = n
    omega
theorem mtV_0 {n a : Int} (h : inM n a) (h1 : -365961662 ≤ n) (h2 : n ≤ 364522971) : mtV n 0 := by
  have hc := inM_cv h
  have hy := isY_in (cvP_isY hc) h1 h2
  refine mtV_in h1 h2 hc ?_ ?_ <;> (unfold mtM; omega)
theorem mtG_ex {n k : Int} (h : mtV n k) : ∃ q, mtG n k q := by
  obtain ⟨-, -, y, m, d, hc, -, -⟩ := h
  exact ⟨_, y, m, d, hc, rfl⟩
theorem c1_no {L : List Int} {e : zE} {r : rU} {t0 t1 a b k : Int} (hL : L.length ≤ 40) (hn : L.Nodup) (hw : rW r) (h1 : oOK e.1) (h2 : ∀ c ∈ e.2, oOK c.2) (ha : inM (lmM L e r t0 / 1440) a) (hb : inM ((mtI L t1 + 1439) / 1440) b) (hk : b - a < k) : ¬ okG L e r t0 t1 k 0 := by
  rintro ⟨x, q1, q2, q3⟩
  obtain ⟨-, q, g1, g2, g3⟩ := go_G q1 q2
  obtain ⟨a', d, e1, e2, e3, e4⟩ := mt_form g1
  have ea : a' = a := inM_one ⟨by omega, by omega⟩ ha
  subst ea
  have v := mn_v d (lmI (a' + k))
  have m1 := ms_lt (a := b) (b := a' + k) (by omega)
  have l1 := lm_bd (a' + k)
  have b2 := hb.2
  have := ok_late (t1 := t1) hL hn hw h1 h2 q1 q2 g1 (by omega)
  omega
theorem lm_lat {L : List Int} {e : zE} {r : rU} {t0 t1 : Int} (hL : L.length ≤ 40) (hw : rW r) (h1 : oOK e.1) (h2 : ∀ c ∈ e.2, oOK c.2) (ht : t0 ≤ t1) : lmM L e r t0 ≤ mtI L t1 + 1439 := by
  have a := mt_mono (L := L) hL ht
  have b := ofF_bd (L := L) (t := t0) hw h1 h2
  have c : lmM L e r t0 = mtI L t0 + ofF L e r t0 := rfl
  omega
theorem c2_no {L : List Int} {e : zE} {r : rU} {t0 t1 m q k : Int} (hL : L.length ≤ 40) (hn : L.Nodup) (hw : rW r) (h1 : oOK e.1) (h2 : ∀ c ∈ e.2, oOK c.2) (hg : mtG (lmM L e r t0 / 1440) m q) (hk : (mtI L t1 + 1439 - (lmM L e r t0 - lmM L e r t0 / 1440 * 1440) - q * 1440) / 1440 < k) : ¬ okG L e r t0 t1 m k := by
  rintro ⟨x, q1, q2, q3⟩
  have := ok_late (t1 := t1) hL hn hw h1 h2 q1 q2 hg (by omega)
  omega
theorem c2_0 {L : List Int} {e : zE} {r : rU} {t0 t1 m q : Int} (hL : L.length ≤ 40) (hn : L.Nodup) (hw : rW r) (h1 : oOK e.1) (h2 : ∀ c ∈ e.2, oOK c.2) (ht : t0 ≤ t1) (hm : m = 0 ∨ okG L e r t0 t1 m 0) (hg : mtG (lmM L e r t0 / 1440) m q) : 0 ≤ (mtI L t1 + 1439 - (lmM L e r t0 - lmM L e r t0 / 1440 * 1440) - q * 1440) / 1440 := by
  rcases hm with g | ⟨x, q1, q2, q3⟩
  · rw [g] at hg
    have := mt_0 hg
    have := lm_lat hL hw h1 h2 ht
    omega
  · obtain ⟨-, q', g1, g2, g3⟩ := go_G q1 q2
    have e9 := mtG_one hg g1
    subst e9
    have s1 := sec60 hn (mtI_ok hL t0)
    have hi := lc_in hw h1 h2 (by unfold seI; omega) (by unfold seI; omega) g3 q2
    have := mt_ge hL (t := t1) (M := (q + 0) * 1440 + (lmM L e r t0 - lmM L e r t0 / 1440 * 1440) - 1439) (by omega)
    omega
theorem go_b {L : List Int} {e : zE} {r : rU} {t m d x : Int} (hL : L.length ≤ 40) (hn : L.Nodup) (hw : rW r) (h1 : oOK e.1) (h2 : ∀ c ∈ e.2, oOK c.2) (h : goR L e r t m d x) (hx : x ≠ NONEI) : -32000000000000 ≤ x ∧ x ≤ 32000000000000 := by
  obtain ⟨-, q, g1, g2, g3⟩ := go_G h hx
  have s1 := sec60 hn (mtI_ok hL t)
  have hi := lc_in hw h1 h2 (by unfold seI; omega) (by unfold seI; omega) g3 hx
  unfold dOK at g2
  have b1 := lsI_b hL (((q + d) * 1440 + (lmM L e r t - lmM L e r t / 1440 * 1440) - 1439) / 1440)
  have b2 := lsI_b hL (((q + d) * 1440 + (lmM L e r t - lmM L e r t / 1440 * 1440) + 1439) / 1440)
  unfold stI at hi
  omega
theorem go_00 {L : List Int} {e : zE} {r : rU} {t y a : Int} (hL : L.length ≤ 40) (hn : L.Nodup) (hw : rW r) (h1 : oOK e.1) (h2 : ∀ c ∈ e.2, oOK c.2) (ht : tOK t L) (hM : mOK (lmM L e r t)) (ha : inM (lmM L e r t / 1440) a) (h : goR L e r t 0 0 y) : y ≠ NONEI := by
  unfold mOK at hM
  have hv := mtV_0 ha (by omega) (by omega)
  rcases h with ⟨g, -⟩ | ⟨-, q, g1, ⟨g2, -⟩ | ⟨g2, g3⟩⟩
  · exact absurd hv g
  · have := mt_0 g1
    exact absurd (show dOK (q + 0) from ⟨by omega, by omega⟩) g2
  · have e9 := mt_0 g1
    rw [show (q + 0) * 1440 + (lmM L e r t - lmM L e r t / 1440 * 1440) = lmM L e r t by omega] at g3
    have hc := cl_self (e := e) (r := r) hL hn hw ht
    have s1 := sec60 hn (mtI_ok hL t)
    rcases g3 with k | ⟨k, -⟩
    · obtain ⟨o, o1, o2⟩ := cl_of (List.mem_of_getElem? k)
      have ob := ofs_all hw h1 h2 o1
      have b1 := lsI_b hL ((lmM L e r t - o) / 1440)
      have hse : seI L t = t - stI L (mtI L t) := rfl
      unfold stI at o2
      unfold NONEI
      omega
    · omega
theorem go_ne {L : List Int} {e : zE} {r : rU} {t0 t1 m d y a : Int} (hL : L.length ≤ 40) (hn : L.Nodup) (hw : rW r) (h1 : oOK e.1) (h2 : ∀ c ∈ e.2, oOK c.2) (ht : tOK t0 L) (hM : mOK (lmM L e r t0)) (ha : inM (lmM L e r t0 / 1440) a) (hm : m = 0 ∨ okG L e r t0 t1 m 0) (hd : d = 0 ∨ okG L e r t0 t1 m d) (h : goR L e r t0 m d y) : y ≠ NONEI := by
  rcases hd with g | ⟨x, q1, q2, -⟩
  · subst g
    rcases hm with g | ⟨x, q1, q2, -⟩
    · subst g
      exact go_00 hL hn hw h1 h2 ht hM ha h
    · rw [goR_one h q1]; exact q2
  · rw [goR_one h q1]; exact q2
def gB (i t0 t1 w : Int) (L : List Int) (zc : zY) : Prop := 0 ≤ i ∧ i < (zc.1.length : Int) ∧ tOK t0 L ∧ tOK t1 L ∧ 0 ≤ w ∧ w ≤ 2 ∧ t0 ≤ t1 ∧ t1 - t0 ≤ 2592000000 ∧ ∀ e u, zc.1[i.toNat]? = some e → zc.2[i.toNat]? = some u → mOK (lmM L e u t0)
def spBY (i t0 t1 w : Int) (L : List Int) (zc : zY) (k r : Int) (L' : List Int) (zc' : zY) : Prop := L' = L ∧ zc' = zc ∧ ((k = 1 ∧ ¬ gB i t0 t1 w L zc) ∨ (k = 0 ∧ gB i t0 t1 w L zc ∧ ∃ e u, zc.1[i.toNat]? = some e ∧ zc.2[i.toNat]? = some u ∧ btR L e u t0 t1 w r))
theorem spBY_det (i t0 t1 w : Int) (L : List Int) (zc : zY) : ypD (spBY i t0 t1 w L zc) := by
  intro k r L1 z k' r' L2 z' h h'
  obtain ⟨h1, h2, h3⟩ := h
  obtain ⟨g1, g2, g3⟩ := h'
  rcases h3 with ⟨a1, a2⟩ | ⟨a1, a2, e, u, a3, a4, a5⟩ <;> rcases g3 with ⟨b1, b2⟩ | ⟨b1, b2, e', u', b3, b4, b5⟩
  · exact ⟨by omega, by rw [h1, g1], by rw [h2, g2], by omega⟩
  · exact absurd b2 a2
  · exact absurd a2 b2
  · cases a3.symm.trans b3
    cases a4.symm.trans b4
    exact ⟨by omega, by rw [h1, g1], by rw [h2, g2], fun _ => btR_one a5 b5⟩
theorem spBY_no2 {i t0 t1 w : Int} {L : List Int} {zc : zY} {r : Int} {L' : List Int} {zc' : zY} (h : spBY i t0 t1 w L zc 2 r L' zc') : False := by
  obtain ⟨-, -, ⟨h, -⟩ | ⟨h, -⟩⟩ := h <;> omega
theorem ex_inM (n : Int) : ∃ a, inM n a := by
  obtain ⟨h1, h2⟩ := yrI_ok n
  have e1 : msI (12 * yrI n) = ysI (yrI n) := by
    unfold msI
    rw [show 12 * yrI n / 12 = yrI n by omega, show 12 * yrI n % 12 + 1 = 1 by omega]
    exact nu_first _
  have e2 : msI (12 * yrI n + 12) = ysI (yrI n + 1) := by
    unfold msI
    rw [show (12 * yrI n + 12) / 12 = yrI n + 1 by omega, show (12 * yrI n + 12) % 12 + 1 = 1 by omega]
    exact nu_first _
  have key : ∀ j : Nat, n < msI (12 * yrI n + (j : Int)) → ∃ a, inM n a := by
    intro j
    induction j with
    | zero => intro h; rw [show 12 * yrI n + ((0 : Nat) : Int) = 12 * yrI n by omega] at h; exfalso; omega
    | succ j ih =>
      intro h
      by_cases g : n < msI (12 * yrI n + (j : Int))
      · exact ih g
      · rw [show 12 * yrI n + ((j + 1 : Nat) : Int) = 12 * yrI n + (j : Int) + 1 by omega, ms_succ] at h
        exact ⟨12 * yrI n + (j : Int), by omega, h⟩
  exact key 12 (by rw [show 12 * yrI n + ((12 : Nat) : Int) = 12 * yrI n + 12 by omega, e2]; exact h2)
theorem r_bm {L : List Int} {e : zE} {r : rU} {t0 t1 m : Int} (hL : L.length ≤ 40) (hn : L.Nodup) (hw : rW r) (h1 : oOK e.1) (h2 : ∀ c ∈ e.2, oOK c.2) (ht : t0 ≤ t1) (hm : 0 ≤ m) (ho : m = 0 ∨ okG L e r t0 t1 m 0) (hi : ∀ k, m < k → k ≤ (t1 - t0) / 86400 / 28 + 3 → ∃ y, goR L e r t0 k 0 y ∧ (y = NONEI ∨ t1 < y)) : bmR L e r t0 t1 m ∧ ∃ y, goR L e r t0 (m + 1) 0 y ∧ (y = NONEI ∨ t1 < y) := by
  have hlt : m < (t1 - t0) / 86400 / 28 + 3 := by
    apply Decidable.byContradiction
    intro q
    rcases ho with g | g
    · omega
    · exact r1_no hL hn hw h1 h2 ht (by omega) g
  refine ⟨⟨hm, ho, fun k hk => ?_⟩, hi (m + 1) (by omega) (by omega)⟩
  by_cases q : k ≤ (t1 - t0) / 86400 / 28 + 3
  · obtain ⟨y, y1, y2⟩ := hi k hk q
    rintro ⟨x, x1, x2, x3⟩
    have := goR_one x1 y1
    rcases y2 with w | w
    · exact x2 (by omega)
    · omega
  · exact r1_no hL hn hw h1 h2 ht (by omega)
theorem tk_one {B : List Int} {k : Nat} {x : Int} (h : B[k]? = some x) : B.take (k + 1) = B.take k ++ [x] := by
  rw [List.take_add_one, h]
  rfl
theorem go_mok {L : List Int} {e : zE} {r : rU} {t m d x : Int} (h : goR L e r t m d x) (hx : x ≠ NONEI) : mOK (lmM L e r t) := by
  obtain ⟨⟨h1, h2, -⟩, -⟩ := go_G h hx
  unfold mOK
  omega
