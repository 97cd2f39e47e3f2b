/-! the machine's instructions as steps of abstract states -/
def zk_G (p : Program) (l : Launch) (e : Env) (R : Room) (s : State) (m : MethodId) (args : Array Value) (below : List Frame) (meth : Method) (c : Code) (cells slots : Nat) (Q : State → Prop) (D : va_G) (RT : List zr_R) (ro : Nat → Option Nat) (ms : List (Nat × Nat)) : zg_G :=
  fun pc H locs ls st => zc_kept D RT ro ms s.heap H → W p l e R s m args below meth c H locs cells slots Q (F0 m pc ls st)
theorem zn_ib {n : Int} (h1 : -128 ≤ n) (h2 : n ≤ 127) : (Int32.ofInt n).toInt = n := by
  rw [Int32.toInt_ofInt]; exact zn_b32 (by omega) (by omega)
theorem zn_bp {n : Int} (h1 : -128 ≤ n) (h2 : n ≤ 127) : (Int8.ofInt n).toInt32.toInt = n := by
  rw [Int8.toInt_toInt32, Int8.toInt_ofInt]
  show n.bmod 256 = n
  exact Int.bmod_eq_of_le (by omega) (by omega)
theorem zn_sp {n : Int} (h1 : -32768 ≤ n) (h2 : n ≤ 32767) : (Int16.ofInt n).toInt32.toInt = n := by
  rw [Int16.toInt_toInt32, Int16.toInt_ofInt]
  show n.bmod 65536 = n
  exact Int.bmod_eq_of_le (by omega) (by omega)
theorem zn_ibx {x : Int32} (h1 : -128 ≤ x.toInt) (h2 : x.toInt ≤ 127) : x.toInt8.toInt32.toInt = x.toInt := by
  rw [Int8.toInt_toInt32, Int32.toInt_toInt8]; exact Int.bmod_eq_of_le (by omega) (by omega)
theorem zn_and {x y : Int32} (h : 0 ≤ y.toInt) : 0 ≤ (x &&& y).toInt ∧ (x &&& y).toInt ≤ y.toInt := by
  have e0 : y.toInt = y.toBitVec.toInt := rfl
  have e1 : y.toInt = (y.toBitVec.toNat : Int) ∧ 2 * y.toBitVec.toNat < 2 ^ 32 := by
    rw [e0, BitVec.toInt_eq_toNat_cond] at h ⊢
    split at h
    · rename_i h1
      rw [if_pos h1]; exact ⟨rfl, h1⟩
    · have := y.toBitVec.isLt
      omega
  obtain ⟨e1, hlt⟩ := e1
  have e2 : (x &&& y).toBitVec.toNat ≤ y.toBitVec.toNat := by
    rw [Int32.toBitVec_and, BitVec.toNat_and]
    exact Nat.and_le_right
  have e3 : (x &&& y).toInt = ((x &&& y).toBitVec.toNat : Int) := by
    rw [← Int32.toInt_toBitVec, BitVec.toInt_eq_toNat_of_lt (by omega)]
  omega
theorem zn_sg (x y : Int64) : (lg_cmp x y).toInt = (x.toInt - y.toInt).sign := by
  unfold lg_cmp
  split
  · rename_i h
    have h := Int64.lt_iff_toInt_lt.mp h
    rw [Int.sign_eq_one_of_pos (by omega)]; decide
  · rename_i h
    split
    · rename_i h2
      rw [h2, Int.sub_self]; decide
    · rename_i h2
      have h3 : ¬ y.toInt < x.toInt := fun q => h (Int64.lt_iff_toInt_lt.mpr q)
      have h4 : ¬ x.toInt = y.toInt := fun q => h2 (Int64.toInt_inj.mp q)
      rw [Int.sign_eq_neg_one_of_neg (by omega)]; decide
theorem zv_nr {ro : Nat → Option Nat} {v : Nat → Int} {x : Value} {z : zv_V} (hk : z.1 = 2 ∨ 4 ≤ z.1) (h : zv_ok ro v x z) : x = .null ∨ ∃ a : Nat, x = .ref a := by
  obtain ⟨k, f⟩ := z
  match k with
  | 0 => rcases hk with hk | hk <;> simp at hk
  | 1 => rcases hk with hk | hk <;> simp at hk
  | 2 => exact Or.inl h.1
  | 3 => rcases hk with hk | hk <;> simp at hk
  | k + 4 =>
    rcases h with ⟨-, h, -⟩ | ⟨a, h, -⟩
    · exact Or.inl h
    · exact Or.inr ⟨a, h⟩
theorem zm_keep1 {lv : List (Nat × Value)} {i k : Nat} {x : Value} (hk : k ≠ 1) : ∀ j y, (j, y) ∈ lv → ¬ j = i → ¬ (j = i + 1 ∧ k = 1) → ¬ (j + 1 = i ∧ y.category = 2) → (j, y) ∈ (i, x) :: lv.filter (fun q => !(q.1 == i) && !(q.1 + 1 == i && q.2.category == 2)) := by
  intro j y h1 h2 h3 h4
  refine List.mem_cons_of_mem _ (List.mem_filter.mpr ⟨h1, ?_⟩)
  simp only [Bool.and_eq_true, Bool.not_eq_true', beq_eq_false_iff_ne, Bool.and_eq_false_iff]
  refine ⟨h2, ?_⟩
  by_cases e : j + 1 = i
  · exact Or.inr (fun q => h4 ⟨e, q⟩)
  · exact Or.inl e
theorem zm_keep2 {lv : List (Nat × Value)} {i : Nat} {x : Value} : ∀ j y, (j, y) ∈ lv → ¬ j = i → ¬ (j = i + 1 ∧ 1 = 1) → ¬ (j + 1 = i ∧ y.category = 2) → (j, y) ∈ (i, x) :: lv.filter (fun q => !(q.1 == i) && (!(q.1 == i + 1) && !(q.1 + 1 == i && q.2.category == 2))) := by
  intro j y h1 h2 h3 h4
  refine List.mem_cons_of_mem _ (List.mem_filter.mpr ⟨h1, ?_⟩)
  simp only [Bool.and_eq_true, Bool.not_eq_true', beq_eq_false_iff_ne, Bool.and_eq_false_iff]
  refine ⟨h2, fun q => h3 ⟨q, rfl⟩, ?_⟩
  by_cases e : j + 1 = i
  · exact Or.inr (fun q => h4 ⟨e, q⟩)
  · exact Or.inl e
section ZM
variable {p : Program} {l : Launch} {e : Env} {R : Room} {s : State} {m : MethodId} {args : Array Value} {below : List Frame} {meth : Method} {c : Code} {cells slots : Nat} {Q : State → Prop} {cc : ByteArray}
variable {D : va_G} {cA : Nat → ClassId} {RT : List zr_R} {ro : Nat → Option Nat} {sz : Nat} {H0 : Heap} {Ga : List Int} {nL : Nat} {ms : List (Nat × Nat)} {pc : Nat} {q : zs_S} {S : List zv_V} {fa fb : zl_F}
theorem zm_iconst (hx : p.tables.exec = Jvm.exec) (hb : c.code = cc) {n : Int} (h1 : -128 ≤ n) (h2 : n ≤ 127) (hd : decode cc pc = .ok (.iconst n, 1)) (K : zw D cA RT ro sz H0 Ga nL (zk_G p l e R s m args below meth c cells slots Q D RT ro ms) (pc + 1) (zq_S q ((0, zl_k n) :: q.2.2.2.1))) : zw D cA RT ro sz H0 Ga nL (zk_G p l e R s m args below meth c cells slots Q D RT ro ms) pc q :=
  zi_const (Or.inl ⟨rfl, Int32.ofInt n, rfl, zn_ib h1 h2⟩) (fun _ _ _ _ k hk => lv_iconst hx hb hd rfl (k hk)) K

theorem zm_bipush (hx : p.tables.exec = Jvm.exec) (hb : c.code = cc) {n : Int} (h1 : -128 ≤ n) (h2 : n ≤ 127) (hd : decode cc pc = .ok (.bipush n, 2)) (K : zw D cA RT ro sz H0 Ga nL (zk_G p l e R s m args below meth c cells slots Q D RT ro ms) (pc + 2) (zq_S q ((0, zl_k n) :: q.2.2.2.1))) : zw D cA RT ro sz H0 Ga nL (zk_G p l e R s m args below meth c cells slots Q D RT ro ms) pc q :=
  zi_const (Or.inl ⟨rfl, (Int8.ofInt n).toInt32, rfl, zn_bp h1 h2⟩) (fun _ _ _ _ k hk => lv_bipush hx hb hd rfl (k hk)) K

theorem zm_sipush (hx : p.tables.exec = Jvm.exec) (hb : c.code = cc) {n : Int} (h1 : -32768 ≤ n) (h2 : n ≤ 32767) (hd : decode cc pc = .ok (.sipush n, 3)) (K : zw D cA RT ro sz H0 Ga nL (zk_G p l e R s m args below meth c cells slots Q D RT ro ms) (pc + 3) (zq_S q ((0, zl_k n) :: q.2.2.2.1))) : zw D cA RT ro sz H0 Ga nL (zk_G p l e R s m args below meth c cells slots Q D RT ro ms) pc q :=
  zi_const (Or.inl ⟨rfl, (Int16.ofInt n).toInt32, rfl, zn_sp h1 h2⟩) (fun _ _ _ _ k hk => lv_sipush hx hb hd rfl (k hk)) K

theorem zm_lconst (hx : p.tables.exec = Jvm.exec) (hb : c.code = cc) {n : Fin 2} (hd : decode cc pc = .ok (.lconst n, 1)) (K : zw D cA RT ro sz H0 Ga nL (zk_G p l e R s m args below meth c cells slots Q D RT ro ms) (pc + 1) (zq_S q ((1, zl_k (n.val : Int)) :: q.2.2.2.1))) : zw D cA RT ro sz H0 Ga nL (zk_G p l e R s m args below meth c cells slots Q D RT ro ms) pc q :=
  zi_const (Or.inr ⟨rfl, Int64.ofNat n.val, rfl, by rcases n with ⟨n, hn⟩; rcases (show n = 0 ∨ n = 1 by omega) with rfl | rfl <;> rfl⟩) (fun _ _ _ _ k hk => lv_lconst hx hb hd rfl (k hk)) K

theorem zm_null (hx : p.tables.exec = Jvm.exec) (hb : c.code = cc) (hd : decode cc pc = .ok (.aconst_null, 1)) (K : zw D cA RT ro sz H0 Ga nL (zk_G p l e R s m args below meth c cells slots Q D RT ro ms) (pc + 1) (zq_S q ((2, zl_k (-1)) :: q.2.2.2.1))) : zw D cA RT ro sz H0 Ga nL (zk_G p l e R s m args below meth c cells slots Q D RT ro ms) pc q :=
  zi_null (fun _ _ _ _ k hk => lv_null hx hb hd (k hk)) K

theorem zm_iload (hx : p.tables.exec = Jvm.exec) (hb : c.code = cc) {i : Nat} {f : zl_F} (hz : zx_get q.2.2.1 i = some (0, f)) (hd : decode cc pc = .ok (.iload i, 2)) (K : zw D cA RT ro sz H0 Ga nL (zk_G p l e R s m args below meth c cells slots Q D RT ro ms) (pc + 2) (zq_S q ((0, f) :: q.2.2.2.1))) : zw D cA RT ro sz H0 Ga nL (zk_G p l e R s m args below meth c cells slots Q D RT ro ms) pc q :=
  zi_load hz (fun v _ _ _ _ x ho hl k hk => by obtain ⟨y, rfl, -⟩ := ho; exact lv_iload hx hb hd hl (k hk)) K

theorem zm_iload_n (hx : p.tables.exec = Jvm.exec) (hb : c.code = cc) {i : Fin 4} {f : zl_F} (hz : zx_get q.2.2.1 i.val = some (0, f)) (hd : decode cc pc = .ok (.iload_n i, 1)) (K : zw D cA RT ro sz H0 Ga nL (zk_G p l e R s m args below meth c cells slots Q D RT ro ms) (pc + 1) (zq_S q ((0, f) :: q.2.2.2.1))) : zw D cA RT ro sz H0 Ga nL (zk_G p l e R s m args below meth c cells slots Q D RT ro ms) pc q :=
  zi_load hz (fun v _ _ _ _ x ho hl k hk => by obtain ⟨y, rfl, -⟩ := ho; exact lv_iload_n hx hb hd rfl hl (k hk)) K

theorem zm_lload (hx : p.tables.exec = Jvm.exec) (hb : c.code = cc) {i : Nat} {f : zl_F} (hz : zx_get q.2.2.1 i = some (1, f)) (hd : decode cc pc = .ok (.lload i, 2)) (K : zw D cA RT ro sz H0 Ga nL (zk_G p l e R s m args below meth c cells slots Q D RT ro ms) (pc + 2) (zq_S q ((1, f) :: q.2.2.2.1))) : zw D cA RT ro sz H0 Ga nL (zk_G p l e R s m args below meth c cells slots Q D RT ro ms) pc q :=
  zi_load hz (fun v _ _ _ _ x ho hl k hk => by obtain ⟨y, rfl, -⟩ := ho; exact lv_lload hx hb hd hl (k hk)) K

theorem zm_lload_n (hx : p.tables.exec = Jvm.exec) (hb : c.code = cc) {i : Fin 4} {f : zl_F} (hz : zx_get q.2.2.1 i.val = some (1, f)) (hd : decode cc pc = .ok (.lload_n i, 1)) (K : zw D cA RT ro sz H0 Ga nL (zk_G p l e R s m args below meth c cells slots Q D RT ro ms) (pc + 1) (zq_S q ((1, f) :: q.2.2.2.1))) : zw D cA RT ro sz H0 Ga nL (zk_G p l e R s m args below meth c cells slots Q D RT ro ms) pc q :=
  zi_load hz (fun v _ _ _ _ x ho hl k hk => by obtain ⟨y, rfl, -⟩ := ho; exact lv_lload_n hx hb hd rfl hl (k hk)) K

theorem zm_aload (hx : p.tables.exec = Jvm.exec) (hb : c.code = cc) {i : Nat} {z : zv_V} (hk0 : z.1 = 2 ∨ 4 ≤ z.1) (hz : zx_get q.2.2.1 i = some z) (hd : decode cc pc = .ok (.aload i, 2)) (K : zw D cA RT ro sz H0 Ga nL (zk_G p l e R s m args below meth c cells slots Q D RT ro ms) (pc + 2) (zq_S q (z :: q.2.2.2.1))) : zw D cA RT ro sz H0 Ga nL (zk_G p l e R s m args below meth c cells slots Q D RT ro ms) pc q :=
  zi_load hz (fun v _ _ _ _ x ho hl k hk => by
    rcases zv_nr hk0 ho with rfl | ⟨a, rfl⟩
    · exact lv_aloadN hx hb hd hl (k hk)
    · exact lv_aload hx hb hd hl (k hk)) K

theorem zm_aload_n (hx : p.tables.exec = Jvm.exec) (hb : c.code = cc) {i : Fin 4} {z : zv_V} (hk0 : z.1 = 2 ∨ 4 ≤ z.1) (hz : zx_get q.2.2.1 i.val = some z) (hd : decode cc pc = .ok (.aload_n i, 1)) (K : zw D cA RT ro sz H0 Ga nL (zk_G p l e R s m args below meth c cells slots Q D RT ro ms) (pc + 1) (zq_S q (z :: q.2.2.2.1))) : zw D cA RT ro sz H0 Ga nL (zk_G p l e R s m args below meth c cells slots Q D RT ro ms) pc q :=
  zi_load hz (fun v _ _ _ _ x ho hl k hk => by
    rcases zv_nr hk0 ho with rfl | ⟨a, rfl⟩
    · exact lv_aload_nN hx hb hd rfl hl (k hk)
    · exact lv_aload_n hx hb hd rfl hl (k hk)) K

theorem zm_istore (hx : p.tables.exec = Jvm.exec) (hb : c.code = cc) {i : Nat} {f : zl_F} (hS : q.2.2.2.1 = (0, f) :: S) (hn : i < nL) (hd : decode cc pc = .ok (.istore i, 2)) (K : zw D cA RT ro sz H0 Ga nL (zk_G p l e R s m args below meth c cells slots Q D RT ro ms) (pc + 2) (zq_LS q (zx_put q.2.2.1 i (0, f)) S)) : zw D cA RT ro sz H0 Ga nL (zk_G p l e R s m args below meth c cells slots Q D RT ro ms) pc q :=
  zi_store hS (fun v _ _ _ _ x lv ho hl k hk => by
    obtain ⟨y, rfl, -⟩ := ho
    exact lv_istore hx hb hd hl hn rfl (fun ls' h' => k ls' ⟨_, h', List.mem_cons_self, zm_keep1 (k := 0) (by decide)⟩ hk)) K

theorem zm_istore_n (hx : p.tables.exec = Jvm.exec) (hb : c.code = cc) {i : Fin 4} {f : zl_F} (hS : q.2.2.2.1 = (0, f) :: S) (hn : i.val < nL) (hd : decode cc pc = .ok (.istore_n i, 1)) (K : zw D cA RT ro sz H0 Ga nL (zk_G p l e R s m args below meth c cells slots Q D RT ro ms) (pc + 1) (zq_LS q (zx_put q.2.2.1 i.val (0, f)) S)) : zw D cA RT ro sz H0 Ga nL (zk_G p l e R s m args below meth c cells slots Q D RT ro ms) pc q :=
  zi_store hS (fun v _ _ _ _ x lv ho hl k hk => by
    obtain ⟨y, rfl, -⟩ := ho
    exact lv_istore_n hx hb hd rfl hl hn rfl (fun ls' h' => k ls' ⟨_, h', List.mem_cons_self, zm_keep1 (k := 0) (by decide)⟩ hk)) K

theorem zm_lstore (hx : p.tables.exec = Jvm.exec) (hb : c.code = cc) {i : Nat} {f : zl_F} (hS : q.2.2.2.1 = (1, f) :: S) (hn : i + 1 < nL) (hd : decode cc pc = .ok (.lstore i, 2)) (K : zw D cA RT ro sz H0 Ga nL (zk_G p l e R s m args below meth c cells slots Q D RT ro ms) (pc + 2) (zq_LS q (zx_put q.2.2.1 i (1, f)) S)) : zw D cA RT ro sz H0 Ga nL (zk_G p l e R s m args below meth c cells slots Q D RT ro ms) pc q :=
  zi_store hS (fun v _ _ _ _ x lv ho hl k hk => by
    obtain ⟨y, rfl, -⟩ := ho
    exact lv_lstore hx hb hd hl hn rfl (fun ls' h' => k ls' ⟨_, h', List.mem_cons_self, zm_keep2⟩ hk)) K

theorem zm_lstore_n (hx : p.tables.exec = Jvm.exec) (hb : c.code = cc) {i : Fin 4} {f : zl_F} (hS : q.2.2.2.1 = (1, f) :: S) (hn : i.val + 1 < nL) (hd : decode cc pc = .ok (.lstore_n i, 1)) (K : zw D cA RT ro sz H0 Ga nL (zk_G p l e R s m args below meth c cells slots Q D RT ro ms) (pc + 1) (zq_LS q (zx_put q.2.2.1 i.val (1, f)) S)) : zw D cA RT ro sz H0 Ga nL (zk_G p l e R s m args below meth c cells slots Q D RT ro ms) pc q :=
  zi_store hS (fun v _ _ _ _ x lv ho hl k hk => by
    obtain ⟨y, rfl, -⟩ := ho
    exact lv_lstore_n hx hb hd rfl hl hn rfl (fun ls' h' => k ls' ⟨_, h', List.mem_cons_self, zm_keep2⟩ hk)) K

theorem zm_astore (hx : p.tables.exec = Jvm.exec) (hb : c.code = cc) {i : Nat} {z : zv_V} (hk0 : z.1 = 2 ∨ 4 ≤ z.1) (hS : q.2.2.2.1 = z :: S) (hn : i < nL) (hd : decode cc pc = .ok (.astore i, 2)) (K : zw D cA RT ro sz H0 Ga nL (zk_G p l e R s m args below meth c cells slots Q D RT ro ms) (pc + 2) (zq_LS q (zx_put q.2.2.1 i z) S)) : zw D cA RT ro sz H0 Ga nL (zk_G p l e R s m args below meth c cells slots Q D RT ro ms) pc q :=
  zi_store hS (fun v _ _ _ _ x lv ho hl k hk => by
    rcases zv_nr hk0 ho with rfl | ⟨a, rfl⟩
    · exact lv_astoreN hx hb hd hl hn rfl (fun ls' h' => k ls' ⟨_, h', List.mem_cons_self, zm_keep1 (by omega)⟩ hk)
    · exact lv_astore hx hb hd hl hn rfl (fun ls' h' => k ls' ⟨_, h', List.mem_cons_self, zm_keep1 (by omega)⟩ hk)) K

theorem zm_astore_n (hx : p.tables.exec = Jvm.exec) (hb : c.code = cc) {i : Fin 4} {z : zv_V} (hk0 : z.1 = 2 ∨ 4 ≤ z.1) (hS : q.2.2.2.1 = z :: S) (hn : i.val < nL) (hd : decode cc pc = .ok (.astore_n i, 1)) (K : zw D cA RT ro sz H0 Ga nL (zk_G p l e R s m args below meth c cells slots Q D RT ro ms) (pc + 1) (zq_LS q (zx_put q.2.2.1 i.val z) S)) : zw D cA RT ro sz H0 Ga nL (zk_G p l e R s m args below meth c cells slots Q D RT ro ms) pc q :=
  zi_store hS (fun v _ _ _ _ x lv ho hl k hk => by
    rcases zv_nr hk0 ho with rfl | ⟨a, rfl⟩
    · exact lv_astore_nN hx hb hd rfl hl hn rfl (fun ls' h' => k ls' ⟨_, h', List.mem_cons_self, zm_keep1 (by omega)⟩ hk)
    · exact lv_astore_n hx hb hd rfl hl hn rfl (fun ls' h' => k ls' ⟨_, h', List.mem_cons_self, zm_keep1 (by omega)⟩ hk)) K

theorem zm_iadd (hx : p.tables.exec = Jvm.exec) (hb : c.code = cc) (hS : q.2.2.2.1 = (0, fb) :: (0, fa) :: S) (hd : decode cc pc = .ok (.iadd, 1)) (K : zw D cA RT ro sz H0 Ga nL (zk_G p l e R s m args below meth c cells slots Q D RT ro ms) (pc + 1) (zx_pu 0 (-2147483648) 2147483647 q S (zl_add fa fb))) : zw D cA RT ro sz H0 Ga nL (zk_G p l e R s m args below meth c cells slots Q D RT ro ms) pc q :=
  zi_bin hS (fun ha hb' => zl_add_wf ha hb') (fun v vx vy h1 h2 => by
    obtain ⟨x, rfl, ex⟩ := h1
    obtain ⟨y, rfl, ey⟩ := h2
    refine ⟨.int (x + y), (x + y).toInt, Or.inl ⟨rfl, _, rfl, rfl⟩, (zn_i32 _).1, (zn_i32 _).2, fun g1 g2 => ?_, fun _ _ _ _ k hk => lv_iadd hx hb hd (k hk)⟩
    rw [zl_add_at] at g1 g2 ⊢
    dsimp only at ex ey
    rw [← ex, ← ey] at g1 g2 ⊢
    exact zn_add g1 g2) K

theorem zm_isub (hx : p.tables.exec = Jvm.exec) (hb : c.code = cc) (hS : q.2.2.2.1 = (0, fb) :: (0, fa) :: S) (hd : decode cc pc = .ok (.isub, 1)) (K : zw D cA RT ro sz H0 Ga nL (zk_G p l e R s m args below meth c cells slots Q D RT ro ms) (pc + 1) (zx_pu 0 (-2147483648) 2147483647 q S (zl_sub fa fb))) : zw D cA RT ro sz H0 Ga nL (zk_G p l e R s m args below meth c cells slots Q D RT ro ms) pc q :=
  zi_bin hS (fun ha hb' => zl_sub_wf ha hb') (fun v vx vy h1 h2 => by
    obtain ⟨x, rfl, ex⟩ := h1
    obtain ⟨y, rfl, ey⟩ := h2
    refine ⟨.int (x - y), (x - y).toInt, Or.inl ⟨rfl, _, rfl, rfl⟩, (zn_i32 _).1, (zn_i32 _).2, fun g1 g2 => ?_, fun _ _ _ _ k hk => lv_isub hx hb hd (k hk)⟩
    rw [zl_sub_at] at g1 g2 ⊢
    dsimp only at ex ey
    rw [← ex, ← ey] at g1 g2 ⊢
    exact zn_sub g1 g2) K

theorem zm_ladd (hx : p.tables.exec = Jvm.exec) (hb : c.code = cc) (hS : q.2.2.2.1 = (1, fb) :: (1, fa) :: S) (hd : decode cc pc = .ok (.ladd, 1)) (K : zw D cA RT ro sz H0 Ga nL (zk_G p l e R s m args below meth c cells slots Q D RT ro ms) (pc + 1) (zx_pu 1 (-9223372036854775808) 9223372036854775807 q S (zl_add fa fb))) : zw D cA RT ro sz H0 Ga nL (zk_G p l e R s m args below meth c cells slots Q D RT ro ms) pc q :=
  zi_bin hS (fun ha hb' => zl_add_wf ha hb') (fun v vx vy h1 h2 => by
    obtain ⟨x, rfl, ex⟩ := h1
    obtain ⟨y, rfl, ey⟩ := h2
    refine ⟨.long (x + y), (x + y).toInt, Or.inr ⟨rfl, _, rfl, rfl⟩, (zn_i64 _).1, (zn_i64 _).2, fun g1 g2 => ?_, fun _ _ _ _ k hk => lv_ladd hx hb hd (k hk)⟩
    rw [zl_add_at] at g1 g2 ⊢
    dsimp only at ex ey
    rw [← ex, ← ey] at g1 g2 ⊢
    exact zn_addL g1 g2) K

theorem zm_lsub (hx : p.tables.exec = Jvm.exec) (hb : c.code = cc) (hS : q.2.2.2.1 = (1, fb) :: (1, fa) :: S) (hd : decode cc pc = .ok (.lsub, 1)) (K : zw D cA RT ro sz H0 Ga nL (zk_G p l e R s m args below meth c cells slots Q D RT ro ms) (pc + 1) (zx_pu 1 (-9223372036854775808) 9223372036854775807 q S (zl_sub fa fb))) : zw D cA RT ro sz H0 Ga nL (zk_G p l e R s m args below meth c cells slots Q D RT ro ms) pc q :=
  zi_bin hS (fun ha hb' => zl_sub_wf ha hb') (fun v vx vy h1 h2 => by
    obtain ⟨x, rfl, ex⟩ := h1
    obtain ⟨y, rfl, ey⟩ := h2
    refine ⟨.long (x - y), (x - y).toInt, Or.inr ⟨rfl, _, rfl, rfl⟩, (zn_i64 _).1, (zn_i64 _).2, fun g1 g2 => ?_, fun _ _ _ _ k hk => lv_lsub hx hb hd (k hk)⟩
    rw [zl_sub_at] at g1 g2 ⊢
    dsimp only at ex ey
    rw [← ex, ← ey] at g1 g2 ⊢
    exact zn_subL g1 g2) K

theorem zm_imulL (hx : p.tables.exec = Jvm.exec) (hb : c.code = cc) {n : Int} (hS : q.2.2.2.1 = (0, fb) :: (0, ([], n)) :: S) (hd : decode cc pc = .ok (.imul, 1)) (K : zw D cA RT ro sz H0 Ga nL (zk_G p l e R s m args below meth c cells slots Q D RT ro ms) (pc + 1) (zx_pu 0 (-2147483648) 2147483647 q S (zl_mul n fb))) : zw D cA RT ro sz H0 Ga nL (zk_G p l e R s m args below meth c cells slots Q D RT ro ms) pc q :=
  zi_bin hS (fun ha hb' => zl_mul_wf hb') (fun v vx vy h1 h2 => by
    obtain ⟨x, rfl, ex⟩ := h1
    obtain ⟨y, rfl, ey⟩ := h2
    refine ⟨.int (x * y), (x * y).toInt, Or.inl ⟨rfl, _, rfl, rfl⟩, (zn_i32 _).1, (zn_i32 _).2, fun g1 g2 => ?_, fun _ _ _ _ k hk => lv_imul hx hb hd (k hk)⟩
    rw [zl_mul_at] at g1 g2 ⊢
    have e0 : zl_at v (([], n) : zl_F) = n := zl_k_at v n
    dsimp only at ex ey
    rw [e0] at ex
    rw [← ex, ← ey] at g1 g2 ⊢
    exact zn_mul g1 g2) K

theorem zm_imulR (hx : p.tables.exec = Jvm.exec) (hb : c.code = cc) {n : Int} (hS : q.2.2.2.1 = (0, ([], n)) :: (0, fa) :: S) (hd : decode cc pc = .ok (.imul, 1)) (K : zw D cA RT ro sz H0 Ga nL (zk_G p l e R s m args below meth c cells slots Q D RT ro ms) (pc + 1) (zx_pu 0 (-2147483648) 2147483647 q S (zl_mul n fa))) : zw D cA RT ro sz H0 Ga nL (zk_G p l e R s m args below meth c cells slots Q D RT ro ms) pc q :=
  zi_bin hS (fun ha hb' => zl_mul_wf ha) (fun v vx vy h1 h2 => by
    obtain ⟨x, rfl, ex⟩ := h1
    obtain ⟨y, rfl, ey⟩ := h2
    refine ⟨.int (x * y), (x * y).toInt, Or.inl ⟨rfl, _, rfl, rfl⟩, (zn_i32 _).1, (zn_i32 _).2, fun g1 g2 => ?_, fun _ _ _ _ k hk => lv_imul hx hb hd (k hk)⟩
    rw [zl_mul_at] at g1 g2 ⊢
    have e0 : zl_at v (([], n) : zl_F) = n := zl_k_at v n
    dsimp only at ex ey
    rw [e0] at ey
    rw [← ex, ← ey, Int.mul_comm] at g1 g2 ⊢
    exact zn_mul g1 g2) K

theorem zm_lmulL (hx : p.tables.exec = Jvm.exec) (hb : c.code = cc) {n : Int} (hS : q.2.2.2.1 = (1, fb) :: (1, ([], n)) :: S) (hd : decode cc pc = .ok (.lmul, 1)) (K : zw D cA RT ro sz H0 Ga nL (zk_G p l e R s m args below meth c cells slots Q D RT ro ms) (pc + 1) (zx_pu 1 (-9223372036854775808) 9223372036854775807 q S (zl_mul n fb))) : zw D cA RT ro sz H0 Ga nL (zk_G p l e R s m args below meth c cells slots Q D RT ro ms) pc q :=
  zi_bin hS (fun ha hb' => zl_mul_wf hb') (fun v vx vy h1 h2 => by
    obtain ⟨x, rfl, ex⟩ := h1
    obtain ⟨y, rfl, ey⟩ := h2
    refine ⟨.long (x * y), (x * y).toInt, Or.inr ⟨rfl, _, rfl, rfl⟩, (zn_i64 _).1, (zn_i64 _).2, fun g1 g2 => ?_, fun _ _ _ _ k hk => lv_lmul hx hb hd (k hk)⟩
    rw [zl_mul_at] at g1 g2 ⊢
    have e0 : zl_at v (([], n) : zl_F) = n := zl_k_at v n
    dsimp only at ex ey
    rw [e0] at ex
    rw [← ex, ← ey] at g1 g2 ⊢
    exact zn_mulL g1 g2) K

theorem zm_lmulR (hx : p.tables.exec = Jvm.exec) (hb : c.code = cc) {n : Int} (hS : q.2.2.2.1 = (1, ([], n)) :: (1, fa) :: S) (hd : decode cc pc = .ok (.lmul, 1)) (K : zw D cA RT ro sz H0 Ga nL (zk_G p l e R s m args below meth c cells slots Q D RT ro ms) (pc + 1) (zx_pu 1 (-9223372036854775808) 9223372036854775807 q S (zl_mul n fa))) : zw D cA RT ro sz H0 Ga nL (zk_G p l e R s m args below meth c cells slots Q D RT ro ms) pc q :=
  zi_bin hS (fun ha hb' => zl_mul_wf ha) (fun v vx vy h1 h2 => by
    obtain ⟨x, rfl, ex⟩ := h1
    obtain ⟨y, rfl, ey⟩ := h2
    refine ⟨.long (x * y), (x * y).toInt, Or.inr ⟨rfl, _, rfl, rfl⟩, (zn_i64 _).1, (zn_i64 _).2, fun g1 g2 => ?_, fun _ _ _ _ k hk => lv_lmul hx hb hd (k hk)⟩
    rw [zl_mul_at] at g1 g2 ⊢
    have e0 : zl_at v (([], n) : zl_F) = n := zl_k_at v n
    dsimp only at ex ey
    rw [e0] at ey
    rw [← ex, ← ey, Int.mul_comm] at g1 g2 ⊢
    exact zn_mulL g1 g2) K
end ZM
