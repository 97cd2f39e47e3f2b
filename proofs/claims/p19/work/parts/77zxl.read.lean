/-! p19: the forms, class and reference: one verdict -/
section FORMS
variable {T L : List Int} {w b : Int}
theorem RP.q {s r : uS} (h : RP T w b s r) : RP T s.2.2 r.2.2 s r := ⟨rfl, rfl, h.2.2⟩
def ku8 (g g' : fN) : Prop := ∀ k, (k = 0 ∨ 8 ≤ k) → g' k = g k
theorem ku8.rfl' {g : fN} : ku8 g g := fun _ _ => rfl
theorem ku8.up {g g' : fN} {k : Nat} {v : Int} (h : ku8 g g') (hk : 1 ≤ k ∧ k < 8) : ku8 g (upF g' k v) := fun i hi => by
  rw [up_ne (by omega)]
  exact h i hi
theorem ku8.nu {g : fN} {x : gsS} {k n : Nat} (h : ku8 g x.1) (hk : 1 ≤ k ∧ k < 7) : ku8 g (nuG T k n x).1 := (h.up (by omega)).up (by omega)
theorem wkG_k {wh hd : Int} {x : gsS} : ku8 x.1 (wkG T wh hd x).1 := by
  have a : ku8 x.1 (wk1G T x).1 := ku8.nu (x := (upF x.1 1 5, x.2)) (ku8.rfl'.up (by decide)) (by decide)
  unfold wkG
  split
  · exact ku8.nu (x := (upF (wk1G T x).1 1 1, _)) (a.up (by decide)) (by decide)
  · exact a
theorem daG_k {wh : Int} {x : gsS} : ku8 x.1 (daG T wh x).1 := by
  have a : ku8 x.1 (da1G T x).1 := (ku8.nu (x := x) ku8.rfl' (by decide)).up (by decide)
  unfold daG da2G
  split
  · exact (a.up (by decide)).up (by decide)
  · split
    · exact ku8.nu (x := (upF (da1G T x).1 1 0, _)) (a.up (by decide)) (by decide)
    · exact a
theorem plG_k {x : gsS} : ku8 x.1 (plG T x).1 := by
  have a : ku8 x.1 (pl1G T x).1 := (ku8.nu (x := x) ku8.rfl' (by decide)).up (by decide)
  unfold plG pl2G
  split
  · exact (((a.up (by decide)).up (by decide)).up (by decide)).up (by decide)
  · exact a
theorem drG_k {wh : Int} {x : gsS} : ku8 x.1 (drG T wh x).1 := by
  have a : ku8 x.1 (yrG T x).1 := ((ku8.rfl'.up (by decide)).up (by decide)).up (by decide)
  unfold drG beG
  dsimp only
  split
  · split
    · exact fun k hk => (wkG_k (T := T) k hk).trans (a k hk)
    · split
      · exact fun k hk => (daG_k (T := T) k hk).trans (a k hk)
      · split
        · exact fun k hk => (plG_k (T := T) k hk).trans (a k hk)
        · exact a
  · exact a
theorem DP.kp {f g g' : fN} {lo hi : Int} (h : DP f g lo hi) (k : kp8 g g') : DP f g' lo hi := by
  unfold DP at *
  rw [k 1 (by decide), k 2 (by decide), k 3 (by decide), k 4 (by decide), k 5 (by decide), k 6 (by decide), k 7 (by decide)]
  exact h
theorem omI_comm (p q c : Int) : omI p (omI q c) = omI q (omI p c) := by
  unfold omI mnI
  split <;> split <;> (repeat' split) <;> omega
/-- one part: S, R behind it, g its words -/
def PT (T L : List Int) (s r S R : uS) (g : fN) : Prop := (∃ w' b', RP T w' b' S R) ∧ bs s S ∧ (S.2.1 = 0 → ∃ B N, S.2.2 = omW B s.2.2 ∧ R.2.2 = omI N r.2.2 ∧ (∀ c, lkB L g (omI N c) = omI B c) ∧ (∀ c p, lkB L g (omI p c) = omI p (lkB L g c)) ∧ (B = -1 ∨ (s.1 ≤ B ∧ B ≤ S.1)))
theorem du_part {s r : uS} (h : RP T w b s r) : PT T L s r (duF T s) (duG T r).2 (duG T r).1 := by
  obtain ⟨⟨p, p1, p2⟩, p3, p4⟩ := du_same h.q
  have e : ∀ c, lkB L (duG T r).1 c = c := fun c => by unfold lkB; rw [if_pos p4]
  exact ⟨⟨_, _, p2⟩, p3, fun _ => ⟨p, p, p2.1, p2.2.1, fun c => e _, fun c p => by rw [e, e], p1⟩⟩
/-- a moment, when it is read -/
def sqF (L : List Int) (fd ft : fN) : Int := if 0 ≤ dsB fd then dsB fd else tsB L (dsD fd) ft
theorem se_at {fd ft : fN} {s : uS} : (seF L fd ft s).1 = s.1 ∧ (seF L fd ft s).2.1 = s.2.1 := by
  unfold seF bl0F
  split
  · split
    · exact ⟨blF_at _ _, bl_b⟩
    · split
      · exact ⟨blF_at _ _, bl_b⟩
      · exact ⟨rfl, rfl⟩
  · exact ⟨rfl, rfl⟩
theorem se_w {fd ft : fN} {s : uS} (hb : s.2.1 = 0) : (seF L fd ft s).2.2 = omW (sqF L fd ft) s.2.2 := by
  unfold seF sqF bl0F
  by_cases h : s.2.2 < 0
  · rw [if_pos ⟨hb, h⟩]
    by_cases c : 0 ≤ dsB fd
    · rw [if_pos c, if_pos c, blF_w c]
    · rw [if_neg c, if_neg c]
      by_cases d : 0 ≤ tsB L (dsD fd) ft
      · rw [if_pos d, blF_w d]
      · rw [if_neg d]
        unfold omW
        rw [if_neg (fun q => d q.1)]
  · rw [if_neg (fun q => h q.2)]
    unfold omW
    rw [if_neg (fun q => h q.2)]
theorem mo_look {fd ft g : fN} {lo m m' hi b : Int} (hL : ∀ d ∈ L, -365961662 ≤ d ∧ d ≤ 364522971) (hd : DP fd g lo m) (ht : TP ft g m' hi) (hlo : 0 ≤ lo) (hlm : lo ≤ m) (hm : m ≤ m') (hmh : m' ≤ hi) (h0 : g 0 ≠ 4) : (∀ c, lkB L g (omI (ngB fd) c) = omI (sqF L fd ft) c) ∧ (∀ c p, lkB L g (omI p c) = omI p (lkB L g c)) ∧ (sqF L fd ft = -1 ∨ (lo ≤ sqF L fd ft ∧ sqF L fd ft ≤ hi)) := by
  obtain ⟨l1, l2, l3, l4, l5, l6⟩ := ld_same hd hlo
  obtain ⟨K, k1, k2, -⟩ := lt_any (L := L) (hd := ldH g) (dy := ldD g) ht (by omega)
  obtain ⟨x1, x2⟩ := ldb_eq hd hlo
  have e : ∀ c, lkB L g c = omI K (omI (ldB g) c) := fun c => by unfold lkB; rw [if_neg h0, x2, x1, k2]
  refine ⟨fun c => ?_, fun c p => by rw [e, e, omI_comm (ldB g) p, omI_comm K p], ?_⟩
  · rw [e, l3]
    unfold sqF
    rcases l1 with q | q
    · obtain ⟨q1, q2, q3, q4⟩ := l4 q
      obtain ⟨t1, t2⟩ := lt_same (hd := ldH g) (dy := ldD g) (day := dsD fd) hL ht (by omega) (Or.inr ⟨l5, q1, q2, q3, q4⟩)
      rw [← k2, t2, q, omI_n, if_neg (by decide)]
    · rw [if_pos (by omega)]
      unfold omI mnI
      rw [if_pos (show 0 ≤ dsB fd by omega)]
      rcases k1 with k | k
      · rw [k]; simp
      · rw [if_pos (show 0 ≤ K by omega)]
        split <;> split <;> omega
  · unfold sqF
    rcases l1 with q | q
    · obtain ⟨q1, q2, q3, q4⟩ := l4 q
      obtain ⟨t1, t2⟩ := lt_same (hd := ldH g) (dy := ldD g) (day := dsD fd) hL ht (by omega) (Or.inr ⟨l5, q1, q2, q3, q4⟩)
      rw [q, if_neg (by decide)]
      omega
    · rw [if_pos (by omega)]
      right
      omega
theorem ng_om {f : fN} {b : Int} (h : f 4 = 1 ∧ f 5 = 0 → 0 ≤ f 2) : (if f 4 = 1 ∧ f 5 = 0 then mnI (f 2) b else b) = omI (ngB f) b := by
  unfold omI ngB
  by_cases q : f 4 = 1 ∧ f 5 = 0
  · rw [if_pos q, if_pos q, if_pos (h q)]
  · rw [if_neg q, if_neg q, if_neg (by decide)]
theorem cl_0 (fo : Int) : clG fo 11 = 0 ∧ clG fo 13 = 0 ∧ clG fo 16 = 0 ∧ clG fo 17 = 0 ∧ clG fo 20 = 0 ∧ clG fo 8 = 0 ∧ clG fo 0 = fo ∧ clG fo 1 = -1 := by simp [clG]
theorem mo_part {s r : uS} {fd ft : fN} (hL : ∀ d ∈ L, -365961662 ≤ d ∧ d ≤ 364522971) (h : RP T w b s r) (hs : 0 ≤ s.1) : PT T L s r (moF T L (fd, ft, s)).2.2 (rbG T r).2 (rbG T r).1 := by
  obtain ⟨b', d1, d2, d3⟩ := dt_same (x := (fd, s)) (y := (clG 3, r)) (wh := 1) h.q (Or.inr rfl)
  have hk := drG_k (T := T) (wh := 1) (x := (clG 3, r))
  have hc := cl_0 3
  unfold moF rbG
  dsimp only at d1 d2 d3 hk ⊢
  generalize dtF T 1 (fd, s) = D at d1 d2 d3 ⊢
  generalize drG T 1 (clG 3, r) = E at d1 d3 hk ⊢
  have x1 := d1.expect (c := 84) (by decide)
  have x2 : bs D.2 (ndF T 84 D.2) := ndF_bs
  have t := tm_same (x := (ft, ndF T 84 D.2)) (y := exS T 84 E) (mk := if D.1 1 = 1 then 1 else 2) (mo := if hdG T (clG 3, r) = 1 then 1 else 2) x1 (fun q => by rw [(d3 (x2 q).1).2.1]) ⟨(hk 11 (by decide)).trans hc.1, (hk 13 (by decide)).trans hc.2.1, (hk 16 (by decide)).trans hc.2.2.1, (hk 17 (by decide)).trans hc.2.2.2.1, (hk 20 (by decide)).trans hc.2.2.2.2.1⟩
  obtain ⟨t1, t2, t3⟩ := t
  dsimp only at t1 t2 t3
  generalize tmF9 T (if D.1 1 = 1 then 1 else 2) (ft, ndF T 84 D.2) = F at t1 t2 t3 ⊢
  generalize trG T (if hdG T (clG 3, r) = 1 then 1 else 2) (exS T 84 E) = G at t1 t3 ⊢
  have sa := se_at (L := L) (fd := D.1) (ft := F.1) (s := F.2)
  refine ⟨⟨(seF L D.1 F.1 F.2).2.2, G.2.2.2, rfl, rfl, by rw [sa.1, sa.2]; exact t1.2.2⟩, ?_, fun q => ?_⟩
  · intro q
    rw [sa.2] at q
    rw [sa.1]
    exact (bs.trans d2 (bs.trans x2 t2)) q
  · rw [sa.2] at q
    obtain ⟨p1, p2⟩ := t3 q
    have y2 := t2 q
    have y1 := x2 y2.1
    have y0 := d2 y1.1
    obtain ⟨q1, q2, q3⟩ := d3 y1.1
    have q1' := q1.kp p2
    have y22 : (ndF T 84 D.2).1 ≤ F.2.1 := y2.2
    have g0 : G.1 0 = 3 := by rw [p2 0 (by decide)]; exact (hk 0 (by decide)).trans hc.2.2.2.2.2.2.1
    obtain ⟨m1, m2, m3⟩ := mo_look (b := 0) hL q1' p1 hs y0.2 y1.2 y22 (by rw [g0]; decide)
    refine ⟨sqF L D.1 F.1, ngB D.1, ?_, ?_, m1, m2, by rw [sa.1]; exact m3⟩
    · rw [se_w q, t1.1]
    · rw [t1.2.1, q3]
      exact ng_om (fun z => by have := q1.2.2.2.2.1 (Or.inl z); omega)
/-- RFC 3339: its date -/
theorem df_same {x : fS} {y : gsS} (h : RP T w b x.2 y.2) : RP T w b (dfF T x).2 (rp1G T y).2 ∧ bs x.2 (dfF T x).2 ∧ ((dfF T x).2.2.1 = 0 → DP (dfF T x).1 (rp1G T y).1 x.2.1 (dfF T x).2.1 ∧ (dfF T x).1 4 = 0) := by
  obtain ⟨d1, d2⟩ := RP.digits (ld := 4) 4 (i := 0) (v := 0) h (by decide)
  have d3 := nbF_bs (T := T) (ld := 4) 4 (i := 0) (v := 0) (s := x.2)
  have du := nbF_up (T := T) (ld := 4) 4 (i := 0) (v := 0) (s := x.2) (M := 0) (by decide) (by decide)
  unfold dfF rp1G
  generalize nbF T 4 4 0 0 x.2 = N at d1 d2 d3 du ⊢
  generalize dgG T 4 0 y.2 = M at d1 d2 ⊢
  have a1 := d1.expect (c := 45) (by decide)
  have a2 : bs N.2 (ndF T 45 N.2) := ndF_bs
  obtain ⟨n1, n2, n3⟩ := RP.nm (x := (upF (upF (upF x.1 0 0) 4 0) 5 N.1, ndF T 45 N.2)) (y := exS T 45 (upF (upF (upF y.1 3 y.2.1) 2 M.1) 1 0, M.2)) 7 6 4 2 a1
  have e1 : nmF T 7 6 2 2 (upF (upF (upF x.1 0 0) 4 0) 5 N.1, ndF T 45 N.2) = nmF T 7 6 (2 : Nat) 2 (upF (upF (upF x.1 0 0) 4 0) 5 N.1, ndF T 45 N.2) := rfl
  rw [e1]
  generalize nmF T 7 6 (2 : Nat) 2 (upF (upF (upF x.1 0 0) 4 0) 5 N.1, ndF T 45 N.2) = X at n1 n2 n3 ⊢
  generalize nuG T 4 2 (exS T 45 (upF (upF (upF y.1 3 y.2.1) 2 M.1) 1 0, M.2)) = Y at n1 n3 ⊢
  have c1 := n1.expect (c := 45) (by decide)
  have c2 : bs X.2 (ndF T 45 X.2) := ndF_bs
  obtain ⟨m1, m2, m3⟩ := RP.nm (x := (X.1, ndF T 45 X.2)) (y := exS T 45 Y) 9 8 6 2 c1
  have e2 : nmF T 9 8 2 2 (X.1, ndF T 45 X.2) = nmF T 9 8 (2 : Nat) 2 (X.1, ndF T 45 X.2) := rfl
  rw [e2]
  generalize nmF T 9 8 (2 : Nat) 2 (X.1, ndF T 45 X.2) = Z at m1 m2 m3 ⊢
  generalize nuG T 6 2 (exS T 45 Y) = W at m1 m3 ⊢
  have hbs := bs.trans d3 (bs.trans a2 (bs.trans n2 (bs.trans c2 m2)))
  refine ⟨m1, hbs, fun q => ?_⟩
  obtain ⟨v, v1, v2, v3, v4⟩ := m3 q
  have k4 := m2 q
  have k3 := c2 k4.1
  obtain ⟨u, u1, u2, u3, u4⟩ := n3 k3.1
  have k2 := n2 k3.1
  have k1 := a2 k2.1
  have k0 := d3 k1.1
  have ey := d2 k1.1
  have gx := (h.good k0.1).1
  have k42 : (ndF T 45 X.2).1 ≤ Z.2.1 := k4.2
  have k22 : (ndF T 45 N.2).1 ≤ X.2.1 := k2.2
  have du2 : N.1 ≤ 9999 := Int.le_trans du.2 (by decide)
  have du1 := du.1
  dsimp only [exS] at u3 u4 v3 v4
  rw [v3, v4, u3, u4, ← ey]
  clear m3 n3 d2 du hbs
  refine ⟨?_, by simp [upF]⟩
  unfold DP tlF
  refine ⟨?_, ?_, ?_, ?_, ?_, ?_, ?_, ?_, ?_⟩ <;> simp [upF] <;> omega
def spF (T : List Int) (s : uS) : uS := if (tkF T 84 s).1 = 1 then (tkF T 84 s).2 else if (tkF T 116 (tkF T 84 s).2).1 = 1 then (tkF T 116 (tkF T 84 s).2).2 else ndF T 32 (tkF T 116 (tkF T 84 s).2).2
theorem sp_same {s r : uS} (h : RP T w b s r) : RP T w b (spF T s) (spG T r) ∧ bs s (spF T s) := by
  have yes : ∀ c, 0 ≤ c → (c = 84 ∨ c = 116 ∨ c = 32) → lk T s = c → spF T s = (s.1 + 1, s.2) → RP T w b (spF T s) (spG T r) ∧ bs s (spF T s) := by
    intro c hc h3 q e
    obtain ⟨a1, a2, a3, a4, a5⟩ := h.takes hc q
    have q' := (h.lkc hc).mp q
    have e1 : sp1G T r = r := by unfold sp1G; rw [if_neg (fun z => by omega)]
    rw [e]
    unfold spG
    rw [e1, if_pos q'.1]
    exact ⟨a3, a5⟩
  by_cases c1 : lk T s = 84
  · refine yes 84 (by decide) (Or.inl rfl) c1 ?_
    unfold spF
    rw [tkF_y c1]
    dsimp only
    rw [if_pos (show (1 : Int) = 1 from rfl)]
  · by_cases c2 : lk T s = 116
    · refine yes 116 (by decide) (Or.inr (Or.inl rfl)) c2 ?_
      unfold spF
      rw [tkF_n c1]
      dsimp only
      rw [if_neg (show ¬ (0 : Int) = 1 by decide), tkF_y c2]
      dsimp only
      rw [if_pos (show (1 : Int) = 1 from rfl)]
    · have e : spF T s = ndF T 32 s := by
        unfold spF
        rw [tkF_n c1]
        dsimp only
        rw [if_neg (show ¬ (0 : Int) = 1 by decide), tkF_n c2]
        dsimp only
        rw [if_neg (show ¬ (0 : Int) = 1 by decide)]
      by_cases c3 : lk T s = 32
      · refine yes 32 (by decide) (Or.inr (Or.inr rfl)) c3 ?_
        rw [e]
        unfold ndF
        rw [if_pos c3]
      · rw [e]
        have e2 : ndF T 32 s = flF s := by unfold ndF; rw [if_neg c3]
        rw [e2]
        refine ⟨?_, fun q => absurd q (by show ¬ (1 : Int) = 0; decide)⟩
        rcases h.b01 with hb | hb
        · have gd := h.good hb
          have e1 : sp1G T r = flG r := by
            unfold sp1G
            rw [if_pos ⟨by omega, fun q => c1 ((h.lkc (by decide)).mpr ⟨by omega, q⟩), fun q => c2 ((h.lkc (by decide)).mpr ⟨by omega, q⟩), fun q => c3 ((h.lkc (by decide)).mpr ⟨by omega, q⟩)⟩]
          unfold spG
          have hf := h.fail
          have hn : ¬ (flG r).2.1 < 0 := by
            have := hf.brk rfl
            have h3 : (flF s).1 = s.1 := rfl
            omega
          rw [e1, if_neg hn]
          exact hf
        · have gn := h.brk hb
          have e1 : sp1G T r = r := by unfold sp1G; rw [if_neg (fun z => by omega)]
          unfold spG
          rw [e1, if_neg (by omega), flF_1 hb]
          exact h
theorem rp1_k {x : gsS} : ku8 x.1 (rp1G T x).1 := ku8.nu (x := exS T 45 _) (ku8.nu (x := exS T 45 _) (((ku8.rfl'.up (by decide)).up (by decide)).up (by decide)) (by decide)) (by decide)
set_option maxRecDepth 100000 in
theorem sm_part {s r : uS} {fd ft : fN} (hL : ∀ d ∈ L, -365961662 ≤ d ∧ d ≤ 364522971) (h : RP T w b s r) (hs : 0 ≤ s.1) : PT T L s r (smF T L (fd, ft, s)).2.2 (rpG T r).2 (rpG T r).1 := by
  obtain ⟨d1, d2, d3⟩ := df_same (x := (fd, s)) (y := (clG 0, r)) h.q
  have hk := rp1_k (T := T) (x := (clG 0, r))
  have hc := cl_0 0
  have e : (smF T L (fd, ft, s)).2.2 = seF L (dfF T (fd, s)).1 (tfF T (ft, spF T (dfF T (fd, s)).2)).1 (tfF T (ft, spF T (dfF T (fd, s)).2)).2 := by
    unfold smF spF
    rfl
  rw [e]
  unfold rpG
  dsimp only at d1 d2 d3 hk ⊢
  generalize dfF T (fd, s) = D at d1 d2 d3 ⊢
  generalize rp1G T (clG 0, r) = E at d1 d3 hk ⊢
  obtain ⟨x1, x2⟩ := sp_same d1
  have t := tf_same (x := (ft, spF T D.2)) (y := rpS T E) x1 ⟨(hk 11 (by decide)).trans hc.1, (hk 13 (by decide)).trans hc.2.1, (hk 16 (by decide)).trans hc.2.2.1, (hk 17 (by decide)).trans hc.2.2.2.1, (hk 20 (by decide)).trans hc.2.2.2.2.1⟩
  obtain ⟨t1, t2, t3⟩ := t
  dsimp only at t1 t2 t3
  generalize tfF T (ft, spF T D.2) = F at t1 t2 t3 ⊢
  generalize rp4G T (rp3G T (rp2G T (rpS T E))) = G at t1 t3 ⊢
  have sa := se_at (L := L) (fd := D.1) (ft := F.1) (s := F.2)
  refine ⟨⟨(seF L D.1 F.1 F.2).2.2, G.2.2.2, rfl, rfl, by rw [sa.1, sa.2]; exact t1.2.2⟩, ?_, fun q => ?_⟩
  · intro q
    rw [sa.2] at q
    rw [sa.1]
    exact (bs.trans d2 (bs.trans x2 t2)) q
  · rw [sa.2] at q
    obtain ⟨p1, p2⟩ := t3 q
    have y2 := t2 q
    have y1 := x2 y2.1
    have y0 := d2 y1.1
    obtain ⟨q1, q2⟩ := d3 y1.1
    have q1' := q1.kp (g' := G.1) p2
    have y22 : (spF T D.2).1 ≤ F.2.1 := y2.2
    have g0 : G.1 0 = 0 := by rw [p2 0 (by decide)]; exact (hk 0 (by decide)).trans hc.2.2.2.2.2.2.1
    obtain ⟨m1, m2, m3⟩ := mo_look (b := 0) hL q1' p1 hs y0.2 y1.2 y22 (by rw [g0]; decide)
    refine ⟨sqF L D.1 F.1, ngB D.1, ?_, ?_, m1, m2, by rw [sa.1]; exact m3⟩
    · rw [se_w q, t1.1]
    · rw [t1.2.1]
      unfold ngB
      rw [if_neg (fun z => by omega), omI_n]
theorem bl0_at {p : Int} {s : uS} : (bl0F p s).1 = s.1 ∧ (bl0F p s).2.1 = s.2.1 ∧ (bl0F p s).2.2 = omW p s.2.2 := by
  unfold bl0F
  split
  · rename_i q; exact ⟨blF_at _ _, bl_b, blF_w q⟩
  · rename_i q
    refine ⟨rfl, rfl, ?_⟩
    unfold omW
    rw [if_neg (fun z => q z.1)]
theorem da_part {s r : uS} {fd : fN} (h : RP T w b s r) (hs : 0 ≤ s.1) : PT T L s r (if (dtF T 0 (fd, s)).2.2.1 = 0 ∧ (dtF T 0 (fd, s)).2.2.2 < 0 then bl0F (dsB (dtF T 0 (fd, s)).1) (dtF T 0 (fd, s)).2 else (dtF T 0 (fd, s)).2) (drG T 0 (clG 1, r)).2 (drG T 0 (clG 1, r)).1 := by
  obtain ⟨b', d1, d2, d3⟩ := dt_same (x := (fd, s)) (y := (clG 1, r)) (wh := 0) h.q (Or.inl rfl)
  have hk := drG_k (T := T) (wh := 0) (x := (clG 1, r))
  have hc := cl_0 1
  dsimp only at d1 d2 d3 hk
  generalize dtF T 0 (fd, s) = D at d1 d2 d3 ⊢
  generalize drG T 0 (clG 1, r) = E at d1 d3 hk ⊢
  have sa : ∀ S, S = (if D.2.2.1 = 0 ∧ D.2.2.2 < 0 then bl0F (dsB D.1) D.2 else D.2) → S.1 = D.2.1 ∧ S.2.1 = D.2.2.1 ∧ (D.2.2.1 = 0 → S.2.2 = omW (dsB D.1) D.2.2.2) := by
    intro S hS
    rw [hS]
    split
    · exact ⟨bl0_at.1, bl0_at.2.1, fun _ => bl0_at.2.2⟩
    · rename_i q
      refine ⟨rfl, rfl, fun z => ?_⟩
      unfold omW
      rw [if_neg (fun y => q ⟨z, y.2⟩)]
  generalize hS : (if D.2.2.1 = 0 ∧ D.2.2.2 < 0 then bl0F (dsB D.1) D.2 else D.2) = S
  obtain ⟨a1, a2, a3⟩ := sa S hS.symm
  refine ⟨⟨S.2.2, E.2.2.2, rfl, rfl, by rw [a1, a2]; exact d1.2.2⟩, ?_, fun q => ?_⟩
  · intro q
    rw [a2] at q
    rw [a1]
    exact d2 q
  · rw [a2] at q
    obtain ⟨q1, q2, q3⟩ := d3 q
    have y0 := d2 q
    obtain ⟨l1, l2, l3, l4, l5, l6⟩ := ld_same q1 hs
    have e8 : E.1 8 = 0 := (hk 8 (by decide)).trans hc.2.2.2.2.2.1
    have e0 : E.1 0 = 1 := (hk 0 (by decide)).trans hc.2.2.2.2.2.2.1
    obtain ⟨x1, x2⟩ := ldb_eq q1 hs
    have e : ∀ c, lkB L E.1 c = omI (ldB E.1) c := fun c => by
      unfold lkB ltB
      rw [if_neg (by omega), if_pos e8, x1]
    refine ⟨dsB D.1, ngB D.1, by rw [a3 q, d1.1], ?_, fun c => by rw [e, l3], fun c p => by rw [e, e, omI_comm], by rw [a1]; exact l1⟩
    rw [d1.2.1, q3]
    exact ng_om (fun z => by have := q1.2.2.2.2.1 (Or.inl z); omega)
theorem ti_part {s r : uS} {ft : fN} (hL : ∀ d ∈ L, -365961662 ≤ d ∧ d ≤ 364522971) (h : RP T w b s r) (hs : 0 ≤ s.1) : PT T L s r (bl0F (tsB L NONEI (tmF9 T 0 (ft, (tkF T 84 s).2)).1) (tmF9 T 0 (ft, (tkF T 84 s).2)).2) (trG T 0 (clG 2, (tkG T 84 r).2)).2 (trG T 0 (clG 2, (tkG T 84 r).2)).1 := by
  obtain ⟨k1, k2, k3⟩ := h.q.take (c := 84) (by decide)
  have hc := cl_0 2
  have t := tm_same (x := (ft, (tkF T 84 s).2)) (y := (clG 2, (tkG T 84 r).2)) (mk := 0) (mo := 0) k2 (fun _ => rfl) ⟨hc.1, hc.2.1, hc.2.2.1, hc.2.2.2.1, hc.2.2.2.2.1⟩
  obtain ⟨t1, t2, t3⟩ := t
  dsimp only at t1 t2 t3
  generalize tmF9 T 0 (ft, (tkF T 84 s).2) = F at t1 t2 t3 ⊢
  generalize trG T 0 (clG 2, (tkG T 84 r).2) = G at t1 t3 ⊢
  have sa := bl0_at (p := tsB L NONEI F.1) (s := F.2)
  refine ⟨⟨_, G.2.2.2, rfl, rfl, by rw [sa.1, sa.2.1]; exact t1.2.2⟩, ?_, fun q => ?_⟩
  · intro q
    rw [sa.2.1] at q
    rw [sa.1]
    exact (bs.trans k3 t2) q
  · rw [sa.2.1] at q
    obtain ⟨p1, p2⟩ := t3 q
    have y2 := t2 q
    have y1 := k3 y2.1
    have g0 : G.1 0 = 2 := by rw [p2 0 (by decide)]; exact hc.2.2.2.2.2.2.1
    have g1 : G.1 1 = -1 := by rw [p2 1 (by decide)]; exact hc.2.2.2.2.2.2.2
    have hB : ∀ c, ldb G.1 c = c := fun c => by unfold ldb; rw [if_pos (by omega)]
    have hH : ldHx G.1 = 0 := by unfold ldHx; rw [if_pos (by omega)]
    obtain ⟨m1, m2⟩ := lt_same (hd := ldHx G.1) (dy := ldD G.1) (day := NONEI) hL p1 (show 0 ≤ (tkF T 84 s).2.1 by omega) (Or.inl ⟨by omega, rfl, hH⟩)
    have e : ∀ c, lkB L G.1 c = omI (tsB L NONEI F.1) c := fun c => by
      unfold lkB
      rw [if_neg (by omega), m2, hB]
    refine ⟨tsB L NONEI F.1, -1, by rw [sa.2.2, t1.1], by rw [t1.2.1, omI_n], fun c => by rw [e, omI_n], fun c p => by rw [e, e, omI_comm], ?_⟩
    rw [sa.1]
    have : (tkF T 84 s).2.1 ≤ F.2.1 := y2.2
    omega
/-- the end -/
theorem end_same {S R : uS} {bb : Int} (h : ∃ w' b', RP T w' b' S R) (hv : S.2.1 = 0 → (S.2.2 < 0 ∧ bb = 1000) ∨ (0 ≤ S.2.2 ∧ S.2.2 < 1000 ∧ bb = S.2.2)) : vdF (neF T S) = vfG (endG T R) bb := by
  obtain ⟨w', b', h⟩ := h
  unfold neF endG
  rcases h.b01 with hb | hb
  · have gd := h.good hb
    by_cases c : (T.length : Int) ≤ S.1
    · rw [if_pos ⟨hb, c⟩, if_neg (fun q => by omega)]
      unfold vdF vfG
      rw [if_neg (show ¬ S.2.1 ≠ 0 by omega), if_neg (show ¬ 0 ≤ R.2.1 by omega)]
      rcases hv hb with q | q
      · rw [if_pos q.1, if_neg (by omega)]
      · rw [if_neg (by omega), if_pos (by omega)]
        exact q.2.2.symm
    · rw [if_neg (fun q => c q.2), if_pos ⟨by omega, by omega⟩]
      have hf := h.fail
      have hn := hf.brk rfl
      unfold vdF vfG
      rw [if_pos (show (flF S).2.1 ≠ 0 from (show ¬ (1 : Int) = 0 by decide)), if_pos (show 0 ≤ (flG R).2.1 by omega)]
      exact hn.1.symm
  · have gn := h.brk hb
    rw [if_neg (fun q => by omega), if_neg (fun q => by omega), flF_1 hb]
    unfold vdF vfG
    rw [if_pos (by omega), if_pos (by omega)]
    exact gn.1.symm
theorem one_same {s r S R : uS} {g : fN} (hT : (T.length : Int) ≤ 120) (hs : 0 ≤ s.1 ∧ s.2.2 = -1 ∧ r.2.2 = 1000) (h : PT T L s r S R g) : vdF (neF T S) = vfG (endG T R) (lkB L g R.2.2) := by
  obtain ⟨h1, h2, h3⟩ := h
  refine end_same h1 (fun q => ?_)
  obtain ⟨B, N, b1, b2, b3, b4, b5⟩ := h3 q
  obtain ⟨w', b', hp⟩ := h1
  have gd := hp.good q
  rw [b2, hs.2.2, b3, b1, hs.2.1]
  unfold omW omI mnI
  rcases b5 with b5 | b5
  · rw [b5]; left; simp
  · right
    rw [if_pos (by omega), if_pos (by omega), if_pos (by omega)]
    omega
theorem exG_w {c : Int} {r : uS} : (exG T c r).2.2 = r.2.2 := by
  unfold exG tkG
  split
  · split
    · rfl
    · rfl
  · rfl
theorem ndF_w9 {c : Int} {s : uS} : (ndF T c s).2.2 = s.2.2 := by unfold ndF; split <;> rfl
theorem two_same {s r S0 R0 S1 R1 : uS} {g0 g1 : fN} (hT : (T.length : Int) ≤ 120) (hs : 0 ≤ s.1 ∧ s.2.2 = -1 ∧ r.2.2 = 1000) (h0 : PT T L s r S0 R0 g0) (h1 : PT T L (ndF T 47 S0) (exG T 47 R0) S1 R1 g1) : vdF (neF T S1) = vfG (endG T R1) (lkB L g1 (lkB L g0 R1.2.2)) := by
  obtain ⟨a1, a2, a3⟩ := h0
  obtain ⟨c1, c2, c3⟩ := h1
  refine end_same c1 (fun q => ?_)
  obtain ⟨B1, N1, k1, k2, k3, k4, k5⟩ := c3 q
  have y1 := c2 q
  have y0 := (ndF_bs (T := T) (c := 47) (s := S0)) y1.1
  obtain ⟨B0, N0, j1, j2, j3, j4, j5⟩ := a3 y0.1
  have y00 := a2 y0.1
  obtain ⟨w', b', hp⟩ := c1
  have gd := hp.good q
  rw [k2, exG_w, j2, hs.2.2, j4, j3, k3, k1, ndF_w9, j1, hs.2.1]
  unfold omW omI mnI
  rcases j5 with j5 | j5
  · rw [j5]
    rcases k5 with k5 | k5
    · rw [k5]; left; simp
    · right
      rw [if_neg (show ¬ ((0 : Int) ≤ -1 ∧ (-1 : Int) < 0) by decide), if_pos (by omega), if_pos (show 0 ≤ B1 by omega), if_neg (show ¬ (0 : Int) ≤ -1 by decide), if_pos (by omega)]
      omega
  · right
    rw [if_pos (show 0 ≤ B0 ∧ (-1 : Int) < 0 by omega), if_neg (by omega), if_pos (show 0 ≤ B0 by omega), if_pos (show B0 < 1000 by omega)]
    rcases k5 with k5 | k5
    · rw [k5, if_neg (by decide)]; omega
    · rw [if_pos (show 0 ≤ B1 by omega)]
      split <;> omega
theorem in_same {s r : uS} {fd ft : fN} (hL : ∀ d ∈ L, -365961662 ≤ d ∧ d ≤ 364522971) (hT : (T.length : Int) ≤ 120) (h : RP T w b s r) (hb : s.2.1 = 0) (hs : 0 ≤ s.1 ∧ s.2.2 = -1 ∧ r.2.2 = 1000) : vdF (neF T (inF T L (fd, ft, s)).2.2) = v2G T L (inG T r) := by
  have gd := h.good hb
  unfold v2G inF inG
  dsimp only
  by_cases c : lk T s = 80
  · have c' := (h.lkc (by decide)).mp c
    rw [if_pos c, if_pos c'.2]
    dsimp only
    have d0 := du_part (L := L) h
    obtain ⟨w', b', hp⟩ := d0.1
    have m0 : 0 ≤ (ndF T 47 (duF T s)).1 := by
      have a := ndF_mo T 47 (duF T s)
      rcases hp.b01 with q | q
      · have := hp.good q; omega
      · have := hp.brk q; omega
    exact two_same hT hs d0 (mo_part (fd := fd) (ft := ft) hL (hp.expect (by decide)) m0)
  · rw [if_neg c, if_neg (fun q : byI T r.1 = 80 => c ((h.lkc (by decide)).mpr ⟨by omega, q⟩))]
    have d0 := mo_part (fd := fd) (ft := ft) hL h hs.1
    obtain ⟨w', b', hp⟩ := d0.1
    have hx := hp.expect (c := 47) (by decide)
    have m0 : 0 ≤ (ndF T 47 (moF T L (fd, ft, s)).2.2).1 := by
      have a := ndF_mo T 47 (moF T L (fd, ft, s)).2.2
      rcases hp.b01 with q | q
      · have := hp.good q; omega
      · have := hp.brk q; omega
    by_cases d : lk T (ndF T 47 (moF T L (fd, ft, s)).2.2) = 80
    · have d' := (hx.lkc (by decide)).mp d
      rw [if_pos d, if_pos d']
      dsimp only
      exact two_same hT hs d0 (du_part hx)
    · rw [if_neg d, if_neg (fun q => d ((hx.lkc (by decide)).mpr q))]
      dsimp only
      exact two_same hT hs d0 (mo_part hL hx m0)
theorem mo_fz {s : uS} {fd ft : fN} : fz s (moF T L (fd, ft, s)).2.2 := by
  have a := dtF_fz (T := T) (wh := 1) (x := (fd, s))
  have c := tmF9_fz (T := T) (mk := if (dtF T 1 (fd, s)).1 1 = 1 then 1 else 2) (x := (ft, ndF T 84 (dtF T 1 (fd, s)).2))
  have d := (a.trans (ndF_fz (T := T) (c := 84) (by decide))).trans c
  intro q
  have e := se_at (L := L) (fd := (dtF T 1 (fd, s)).1) (ft := (tmF9 T (if (dtF T 1 (fd, s)).1 1 = 1 then 1 else 2) (ft, ndF T 84 (dtF T 1 (fd, s)).2)).1) (s := (tmF9 T (if (dtF T 1 (fd, s)).1 1 = 1 then 1 else 2) (ft, ndF T 84 (dtF T 1 (fd, s)).2)).2)
  have f := d q
  exact ⟨e.1.trans f.1, e.2.trans f.2⟩
/-- class and reference read alike -/
theorem rd_same {fo : Int} {fd ft g0 g1 : fN} (hL : ∀ d ∈ L, -365961662 ≤ d ∧ d ≤ 364522971) (hT : (T.length : Int) ≤ 120) : rdV T L fo fd ft = rdG T L fo g0 g1 := by
  have h : RP T (-1) 1000 (0, 0, -1) r0S := ⟨rfl, rfl, Or.inl ⟨rfl, rfl, rfl, by decide, by show (0 : Int) ≤ (T.length : Int); omega⟩⟩
  have hs : (0 : Int) ≤ ((0, 0, -1) : uS).1 ∧ ((0, 0, -1) : uS).2.2 = -1 ∧ r0S.2.2 = 1000 := ⟨by decide, rfl, rfl⟩
  unfold rdV rdF rdG
  by_cases f0 : fo = 0
  · rw [if_pos f0, if_pos f0]
    exact one_same hT hs (sm_part hL h hs.1)
  · rw [if_neg f0, if_neg f0]
    by_cases f1 : fo = 1
    · rw [if_pos f1, if_pos f1]
      exact one_same hT hs (da_part h hs.1)
    · rw [if_neg f1, if_neg f1]
      by_cases f2 : fo = 2
      · rw [if_pos f2, if_pos f2]
        exact one_same hT hs (ti_part hL h hs.1)
      · rw [if_neg f2, if_neg f2]
        by_cases f3 : fo = 3
        · rw [if_pos f3, if_pos f3]
          exact one_same hT hs (mo_part hL h hs.1)
        · rw [if_neg f3, if_neg f3]
          by_cases f4 : fo = 4
          · rw [if_pos f4, if_pos f4]
            exact one_same hT hs (du_part h)
          · rw [if_neg f4, if_neg f4]
            by_cases f5 : fo = 5
            · rw [if_pos f5, if_pos f5]
              exact in_same hL hT h rfl hs
            · rw [if_neg f5, if_neg f5]
              dsimp only
              have h1 := h.expect (c := 82) (by decide)
              have key : RP T (-1) 1000 (if 0 ≤ dgF T (ndF T 82 (0, 0, -1)) then (nbF T 1 9 0 0 (ndF T 82 (0, 0, -1))).2 else ndF T 82 (0, 0, -1)) (if (exG T 82 r0S).2.1 < 0 then (dcL T 9 0 0 (exG T 82 r0S)).2 else exG T 82 r0S) := by
                by_cases d : 0 ≤ dgF T (ndF T 82 (0, 0, -1))
                · rw [if_pos d, if_pos (h1.dg.mp d).1]
                  exact (dc_same h1 d).1
                · rw [if_neg d]
                  by_cases g : (exG T 82 r0S).2.1 < 0
                  · rw [if_pos g]
                    have e : dcL T 9 0 0 (exG T 82 r0S) = ((0, 0), exG T 82 r0S) := by
                      show (if _ then _ else _ : (Int × Int) × uS) = _
                      rw [if_neg (fun q => d (h1.dg.mpr ⟨g, q⟩))]
                    rw [e]
                    exact h1
                  · rw [if_neg g]
                    exact h1
              have h2 : RP T (-1) 1000 (coF T (0, 0, -1)) (rcG T r0S) := key.expect (by decide)
              have p0 : 0 ≤ (coF T (0, 0, -1)).1 := by
                rcases h2.b01 with q | q
                · have := h2.good q; omega
                · have := h2.brk q; omega
              rcases h2.b01 with q | q
              · have gd := h2.good q
                rw [if_pos (show (rcG T r0S).2.1 < 0 by omega)]
                exact in_same hL hT h2 q ⟨p0, h2.1, h2.2.1⟩
              · have gn := h2.brk q
                rw [if_neg (show ¬ (rcG T r0S).2.1 < 0 by omega)]
                have z : (inF T L (fd, ft, coF T (0, 0, -1))).2.2.1 = (coF T (0, 0, -1)).1 ∧ (inF T L (fd, ft, coF T (0, 0, -1))).2.2.2.1 = 1 := by
                  unfold inF
                  dsimp only
                  rw [if_neg (show ¬ lk T (coF T (0, 0, -1)) = 80 by rw [lk_1 (by omega)]; decide)]
                  have a := (mo_fz (T := T) (L := L) (fd := fd) (ft := ft) (s := coF T (0, 0, -1))).trans (ndF_fz (T := T) (c := 47) (by decide))
                  have a1 := a q
                  rw [if_neg (by rw [lk_1 (by omega)]; decide)]
                  have c := (a.trans (mo_fz (T := T) (L := L) (fd := (moF T L (fd, ft, coF T (0, 0, -1))).1) (ft := (moF T L (fd, ft, coF T (0, 0, -1))).2.1))) q
                  exact c
                generalize (inF T L (fd, ft, coF T (0, 0, -1))).2.2 = S at z ⊢
                unfold v2G
                dsimp only
                refine end_same ⟨S.2.2, (rcG T r0S).2.2, rfl, rfl, Or.inr ⟨z.2, by rw [z.1]; exact gn.1, by rw [z.1]; exact gn.2⟩⟩ (fun q => by omega)
end FORMS
