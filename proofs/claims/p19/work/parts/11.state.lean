/-! abstract values and states. A value: a kind (0 int, 1 long, 2 null, 3 an int that is the sign of its form, 4 + 2 r a reference to a cell of role r, 5 + 2 r that or null) and its linear form (of a reference: its address, -1 of null) -/
abbrev zv_V : Type := Nat × zl_F
def zv_ref (ro : Nat → Option Nat) (v : Nat → Int) (f : zl_F) (r : Nat) (x : Value) : Prop := ∃ a : Nat, x = .ref a ∧ ro a = some r ∧ (a : Int) = zl_at v f
def zv_ok (ro : Nat → Option Nat) (v : Nat → Int) (x : Value) (z : zv_V) : Prop := match z.1 with
  | 0 => ∃ y : Int32, x = .int y ∧ y.toInt = zl_at v z.2
  | 1 => ∃ y : Int64, x = .long y ∧ y.toInt = zl_at v z.2
  | 2 => x = .null ∧ zl_at v z.2 = -1
  | 3 => ∃ y : Int32, x = .int y ∧ y.toInt = (zl_at v z.2).sign
  | k + 4 => (k % 2 = 1 ∧ x = .null ∧ zl_at v z.2 = -1) ∨ zv_ref ro v z.2 (k / 2) x
def zv_wf (n : Nat) (z : zv_V) : Prop := zl_wf n z.2
theorem zv_ok.up {ro : Nat → Option Nat} {v : Nat → Int} {n : Nat} {y : Int} {x : Value} {z : zv_V} (hw : zv_wf n z) (h : zv_ok ro v x z) : zv_ok ro (zl_up v n y) x z := by
  obtain ⟨k, f⟩ := z
  have e : zl_at (zl_up v n y) f = zl_at v f := zl_up_at hw
  match k with
  | 0 => obtain ⟨a, h1, h2⟩ := h; exact ⟨a, h1, by rw [e]; exact h2⟩
  | 1 => obtain ⟨a, h1, h2⟩ := h; exact ⟨a, h1, by rw [e]; exact h2⟩
  | 2 => exact ⟨h.1, by rw [e]; exact h.2⟩
  | 3 => obtain ⟨a, h1, h2⟩ := h; exact ⟨a, h1, by rw [e]; exact h2⟩
  | k + 4 =>
    rcases h with ⟨h1, h2, h3⟩ | ⟨a, h1, h2, h3⟩
    · exact Or.inl ⟨h1, h2, by rw [e]; exact h3⟩
    · exact Or.inr ⟨a, h1, h2, by rw [e]; exact h3⟩
theorem zv_cat {ro : Nat → Option Nat} {v : Nat → Int} {x : Value} {z : zv_V} (h : zv_ok ro v x z) : x.category = if z.1 = 1 then 2 else 1 := by
  obtain ⟨k, f⟩ := z
  match k with
  | 0 => obtain ⟨a, h1, h2⟩ := h; rw [h1]; rfl
  | 1 => obtain ⟨a, h1, h2⟩ := h; rw [h1]; rfl
  | 2 => rw [show x = .null from h.1]; rfl
  | 3 => obtain ⟨a, h1, h2⟩ := h; rw [h1]; rfl
  | k + 4 =>
    rcases h with ⟨-, h, -⟩ | ⟨a, h1, h2, h3⟩
    · rw [h]; rfl
    · rw [h1]; rfl
def zs_st (ro : Nat → Option Nat) (v : Nat → Int) : List Value → List zv_V → Prop
  | [], [] => True
  | x :: xs, z :: zs => zv_ok ro v x z ∧ zs_st ro v xs zs
  | _, _ => False
theorem zs_st.up {ro : Nat → Option Nat} {v : Nat → Int} {n : Nat} {y : Int} : ∀ {xs : List Value} {zs : List zv_V}, (∀ z ∈ zs, zv_wf n z) → zs_st ro v xs zs → zs_st ro (zl_up v n y) xs zs
  | [], [], _, h => h
  | [], _ :: _, _, h => h
  | _ :: _, [], _, h => h
  | _ :: _, z :: _, hw, h => ⟨zv_ok.up (hw z List.mem_cons_self) h.1, zs_st.up (fun q hq => hw q (List.mem_cons_of_mem _ hq)) h.2⟩
/-! field types: (0, lo, hi) an int, (1, lo, hi) a long between; (k + 4, _, _) as the kinds of references -/
abbrev zt_T : Type := Nat × Int × Int
def zt_ok (ro : Nat → Option Nat) (x : Value) (t : zt_T) : Prop := match t.1 with
  | 0 => ∃ y : Int32, x = .int y ∧ t.2.1 ≤ y.toInt ∧ y.toInt ≤ t.2.2
  | 1 => ∃ y : Int64, x = .long y ∧ t.2.1 ≤ y.toInt ∧ y.toInt ≤ t.2.2
  | 2 => x = .null
  | 3 => False
  | k + 4 => (k % 2 = 1 ∧ x = .null) ∨ ∃ a : Nat, x = .ref a ∧ ro a = some (k / 2)
/-! roles: (0, class, _, the types of its fields) an object; (1, array class, length, [type of its places]) an array; (2, ..) an array that was there before, and is only read -/
abbrev zr_R : Type := Nat × Nat × Nat × List zt_T
def zh_f (D : va_G) (H : Heap) (a ci k : Nat) : Value := match H[a]? with
  | some ce => (ce.slots[D.2 ci k]?).getD .null
  | none => .null
/-- a cell that can be read as an array of n places -/
def zh_ca (cA : Nat → ClassId) (ti n : Nat) (cell : Cell) : Prop := (∃ u : Nat, u < 3 ∧ cell.cls = cA (ti + 10 * u)) ∧ cell.vm ≠ .unknown ∧ (∀ k, cell.vm ≠ .statics k) ∧ n ≤ cell.slots.size ∧ cell.slots.size.toInt32 = Int32.ofNat n
def zh_cell (D : va_G) (cA : Nat → ClassId) (ro : Nat → Option Nat) (H : Heap) (a : Nat) (e : zr_R) : Prop := match e.1 with
  | 0 => ∃ cell : Cell, H[a]? = some cell ∧ cell.cls = D.1 e.2.1 ∧ cell.vm = .none ∧ ∀ (k : Nat) (t : zt_T), e.2.2.2[k]? = some t → ∃ x : Value, cell.slots[D.2 e.2.1 k]? = some x ∧ zt_ok ro x t
  | 2 => ∃ (cell : Cell) (z : Nat → Value), H[a]? = some cell ∧ zh_ca cA e.2.1 e.2.2.1 cell ∧ ∀ (t : zt_T), e.2.2.2 = [t] → ∀ j : Nat, j < e.2.2.1 → cell.slots[j]? = some (z j) ∧ zt_ok ro (z j) t
  | _ => ∃ z : Nat → Value, H[a]? = some (arrV (cA e.2.1) e.2.2.1 z) ∧ ∀ (t : zt_T), e.2.2.2 = [t] → ∀ j : Nat, j < e.2.2.1 → zt_ok ro (z j) t
def zh_ok (D : va_G) (cA : Nat → ClassId) (RT : List zr_R) (ro : Nat → Option Nat) (sz : Nat) (H0 H : Heap) (locs : List Loc) : Prop :=
  sz ≤ H.size ∧ (∀ q : Nat, q < sz → H[q]? = H0[q]?) ∧ (∀ q ∈ locs, sz ≤ q.base) ∧ ∀ (a r : Nat), ro a = some r → ∃ e : zr_R, RT[r]? = some e ∧ (e.1 = 2 ∨ sz ≤ a) ∧ zh_cell D cA ro H a e
/-! a state: bounds, relations, locals, operands, facts of fields ((the object's unknown, its role, the field), its value now), and forms of numbers that stay (what the method was begun with) -/
abbrev zs_S : Type := zl_B × List zl_F × List (Nat × zv_V) × List zv_V × List ((Nat × Nat × Nat) × zv_V) × List zl_F
def zs_wf (q : zs_S) : Prop := (∀ f ∈ q.2.1, zl_wf q.1.length f) ∧ (∀ e ∈ q.2.2.1, zv_wf q.1.length e.2) ∧ (∀ z ∈ q.2.2.2.1, zv_wf q.1.length z) ∧ (∀ e ∈ q.2.2.2.2.1, e.1.1 < q.1.length ∧ zv_wf q.1.length e.2) ∧ ∀ g ∈ q.2.2.2.2.2, zl_wf q.1.length g
def zs_fact (D : va_G) (RT : List zr_R) (ro : Nat → Option Nat) (v : Nat → Int) (H : Heap) (e : (Nat × Nat × Nat) × zv_V) : Prop :=
  ∃ (a ci n : Nat) (fs : List zt_T), (a : Int) = v e.1.1 ∧ ro a = some e.1.2.1 ∧ RT[e.1.2.1]? = some (0, ci, n, fs) ∧ e.1.2.2 < fs.length ∧ zv_ok ro v (zh_f D H a ci e.1.2.2) e.2
def zs_ok (D : va_G) (RT : List zr_R) (ro : Nat → Option Nat) (Ga : List Int) (nL : Nat) (q : zs_S) (v : Nat → Int) (H : Heap) (ls : Array Slot) (st : List Value) : Prop :=
  zl_bd v q.1 ∧ (∀ f ∈ q.2.1, zl_at v f ≤ 0) ∧ (∃ lv : List (Nat × Value), lv_has ls nL lv ∧ ∀ e ∈ q.2.2.1, ∃ x : Value, (e.1, x) ∈ lv ∧ zv_ok ro v x e.2) ∧ zs_st ro v st q.2.2.2.1 ∧ (∀ e ∈ q.2.2.2.2.1, zs_fact D RT ro v H e) ∧ q.2.2.2.2.2.map (zl_at v) = Ga
/-- a new unknown, of value x between lo and hi -/
theorem zl_bd.push {v : Nat → Int} {B : zl_B} {x lo hi : Int} (h : zl_bd v B) (h1 : hi < lo ∨ (lo ≤ x ∧ x ≤ hi)) : zl_bd (zl_up v B.length x) (B ++ [(lo, hi)]) := by
  intro i b hb
  rcases Nat.lt_trichotomy i B.length with hi' | hi' | hi'
  · rw [List.getElem?_append_left hi'] at hb
    have := h i b hb
    rw [show zl_up v B.length x i = v i by simp [zl_up, Nat.ne_of_lt hi']]
    exact this
  · subst hi'
    rw [List.getElem?_append_right (Nat.le_refl _)] at hb
    simp at hb
    subst hb
    simp [zl_up]
    exact h1
  · rw [List.getElem?_append_right (Nat.le_of_lt hi')] at hb
    have : 1 ≤ i - B.length := by omega
    rw [List.getElem?_eq_none (by simpa using this)] at hb
    cases hb
/-- the state with that unknown -/
def zs_new (q : zs_S) (lo hi : Int) : zs_S := (q.1 ++ [(lo, hi)], q.2)
theorem zs_new_wf {q : zs_S} {lo hi : Int} (h : zs_wf q) : zs_wf (zs_new q lo hi) := by
  have e : (zs_new q lo hi).1.length = q.1.length + 1 := by simp [zs_new]
  have l : q.1.length ≤ (zs_new q lo hi).1.length := by omega
  exact ⟨fun f hf => (h.1 f hf).mono l, fun x hx => (h.2.1 x hx).mono l, fun z hz => (h.2.2.1 z hz).mono l, fun x hx => ⟨Nat.lt_of_lt_of_le (h.2.2.2.1 x hx).1 l, zl_wf.mono (h.2.2.2.1 x hx).2 l⟩, fun g hg => (h.2.2.2.2 g hg).mono l⟩
theorem zs_new_ok {D : va_G} {RT : List zr_R} {ro : Nat → Option Nat} {Ga : List Int} {nL : Nat} {q : zs_S} {v : Nat → Int} {H : Heap} {ls : Array Slot} {st : List Value} {lo hi x : Int} (hw : zs_wf q) (h : zs_ok D RT ro Ga nL q v H ls st) (h1 : hi < lo ∨ (lo ≤ x ∧ x ≤ hi)) :
    zs_ok D RT ro Ga nL (zs_new q lo hi) (zl_up v q.1.length x) H ls st := by
  obtain ⟨hB, hC, ⟨lv, hlv, hL⟩, hS, hF, hG⟩ := h
  refine ⟨hB.push h1, fun f hf => by rw [zl_up_at (hw.1 f hf)]; exact hC f hf, ⟨lv, hlv, fun e he => ?_⟩, zs_st.up hw.2.2.1 hS, fun e he => ?_, ?_⟩
  · obtain ⟨y, h3, h4⟩ := hL e he
    exact ⟨y, h3, zv_ok.up (hw.2.1 e he) h4⟩
  · obtain ⟨a, ci, n, fs, h3, h4, h5, h6, h7⟩ := hF e he
    obtain ⟨w1, w2⟩ := hw.2.2.2.1 e he
    exact ⟨a, ci, n, fs, by rw [show zl_up v q.1.length x e.1.1 = v e.1.1 by simp [zl_up, Nat.ne_of_lt w1]]; exact h3, h4, h5, h6, zv_ok.up w2 h7⟩
  · rw [← hG]
    exact List.map_congr_left (fun g hg => zl_up_at (hw.2.2.2.2 g hg))
