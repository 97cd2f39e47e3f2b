/-! going on: what stays -/
theorem ls_ne {L : List Int} {d : Int} (h : d ∉ L) : lsI L (d + 1) = lsI L d := by
  induction L with
  | nil => rfl
  | cons x t ih =>
    rw [lsI_cons, lsI_cons, ih (fun q => h (List.mem_cons_of_mem _ q))]
    have hx : x ≠ d := fun e => h (by rw [e]; exact List.mem_cons_self)
    have : lcI x (d + 1) = lcI x d := by
      unfold lcI
      split <;> split <;> (try split) <;> (try split) <;> omega
    omega
theorem ls_1 {L : List Int} {d : Int} (hn : L.Nodup) : lsI L (d + 1) ≤ lsI L d + 1 := by
  induction L with
  | nil => show (0 : Int) ≤ 0 + 1; decide
  | cons x t ih =>
    obtain ⟨h1, h2⟩ := List.nodup_cons.mp hn
    rw [lsI_cons, lsI_cons]
    by_cases e : x = d
    · subst e
      rw [ls_ne h1]
      have : lcI x (x + 1) ≤ lcI x x + 1 := by
        unfold lcI
        split <;> split <;> (try split) <;> (try split) <;> omega
      omega
    · have h3 := ih h2
      have : lcI x (d + 1) = lcI x d := by
        unfold lcI
        split <;> split <;> (try split) <;> (try split) <;> omega
      omega
theorem sec60 {L : List Int} {t M : Int} (hn : L.Nodup) (h : rdM L t M) : 0 ≤ t - stI L M ∧ t - stI L M ≤ 60 := by
  obtain ⟨h1, h2⟩ := h
  have h3 := ls_1 (d := M / 1440) hn
  unfold stI at *
  have e : (M + 1) / 1440 = M / 1440 ∨ (M + 1) / 1440 = M / 1440 + 1 := by omega
  rcases e with g | g <;> rw [g] at h2 <;> omega
def jGo (D : va_G) (cA : Nat → ClassId) (ro : Nat → Option Nat) (H : Heap) (x fo zq zA zB : Nat) (ze : zE) (lp : Nat) (L : List Int) (ru rF rT : Nat) (rr : rU) : Prop := zh_f D H x 10 0 = .ref lp ∧ zh_f D H x 10 8 = .ref fo ∧ jZR D cA ro H zq zA zB ze lp L ru rF rT rr ∧ ∃ zf : Nat → Value, H[fo]? = some (arrV (cA 1) 63 zf)
theorem jGo.upd {D : va_G} {cA : Nat → ClassId} {ro : Nat → Option Nat} {H H' : Heap} {ms : List (Nat × Nat)} {x fo zq zA zB : Nat} {ze : zE} {lp : Nat} {L : List Int} {ru rF rT : Nat} {rr : rU} (hx : ro x = some 10) (h : zc_kept D RTg ro ms H H') (hm : ∀ y ∈ [(10, 0), (10, 8)], y ∉ ms) (jz : jZR D cA ro H' zq zA zB ze lp L ru rF rT rr) (hf : ∃ zf : Nat → Value, H'[fo]? = some (arrV (cA 1) 63 zf)) (j : jGo D cA ro H x fo zq zA zB ze lp L ru rF rT rr) : jGo D cA ro H' x fo zq zA zB ze lp L ru rF rT rr := ⟨(h.1 x 10 0 10 0 fsX11 hx rfl (by decide) (hm _ (by decide))).trans j.1, (h.1 x 10 8 10 0 fsX11 hx rfl (by decide) (hm _ (by decide))).trans j.2.1, jz, hf⟩
def go_Q (D : va_G) (cA : Nat → ClassId) (ro : Nat → Option Nat) (sz : Nat) (H0 : Heap) (x fo zq zA zB : Nat) (ze : zE) (lp : Nat) (L : List Int) (ru rF rT : Nat) (rr : rU) : Array Value → State → Outcome → State → Prop := fun _ st oc t => (∃ r : Int64, oc = .returned (some (.long r))) ∧ zh_ok D cA RTg ro sz H0 t.heap [] ∧ zc_kept D RTg ro kF st.heap t.heap ∧ jGo D cA ro t.heap x fo zq zA zB ze lp L ru rF rT rr ∧ ∀ p9 : Nat, p9 ∉ [ru, fo] → t.heap[p9]? = st.heap[p9]?
def spWY (L : List Int) (zc : zY) (k : Int) (L' : List Int) (zc' : zY) : Prop := L' = L ∧ zc' = zc ∧ (k = 0 ∨ k = 1)
