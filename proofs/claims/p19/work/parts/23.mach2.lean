/-! the machine's instructions, continued -/
section ZN
variable {p : Program} {l : Launch} {e : Env} {R : Room} {s : State} {m : MethodId} {args : Array Value} {below : List Frame} {meth : Method} {c : Code} {cells slots : Nat} {Q : State → Prop} {cc : ByteArray}
variable {D : va_G} {cA : Nat → ClassId} {RT : List zr_R} {ro : Nat → Option Nat} {sz : Nat} {H0 : Heap} {Ga : List Int} {nL : Nat} {ms : List (Nat × Nat)} {pc : Nat} {q : zs_S} {S : List zv_V} {fa fb : zl_F}
theorem zm_imulF (hx : p.tables.exec = Jvm.exec) (hb : c.code = cc) (hS : q.2.2.2.1 = (0, fb) :: (0, fa) :: S) (hd : decode cc pc = .ok (.imul, 1)) (K : zw D cA RT ro sz H0 Ga nL (zk_G p l e R s m args below meth c cells slots Q D RT ro ms) (pc + 1) (zx_fR 0 (-2147483648) 2147483647 q S [])) : zw D cA RT ro sz H0 Ga nL (zk_G p l e R s m args below meth c cells slots Q D RT ro ms) pc q :=
  zi_binF hS (fun _ _ g hg => (by cases hg)) (fun v vx vy H ls st h _ _ h1 h2 => by
    obtain ⟨x, rfl, ex⟩ := h1
    obtain ⟨y, rfl, ey⟩ := h2
    exact ⟨.int (x * y), (x * y).toInt, Or.inl ⟨rfl, _, rfl, rfl⟩, (zn_i32 _).1, (zn_i32 _).2, fun g hg => (by cases hg), fun _ _ _ _ k hk => lv_imul hx hb hd (k hk)⟩) K

theorem zm_lmulF (hx : p.tables.exec = Jvm.exec) (hb : c.code = cc) (hS : q.2.2.2.1 = (1, fb) :: (1, fa) :: S) (hd : decode cc pc = .ok (.lmul, 1)) (K : zw D cA RT ro sz H0 Ga nL (zk_G p l e R s m args below meth c cells slots Q D RT ro ms) (pc + 1) (zx_fR 1 (-9223372036854775808) 9223372036854775807 q S [])) : zw D cA RT ro sz H0 Ga nL (zk_G p l e R s m args below meth c cells slots Q D RT ro ms) pc q :=
  zi_binF hS (fun _ _ g hg => (by cases hg)) (fun v vx vy H ls st h _ _ h1 h2 => by
    obtain ⟨x, rfl, ex⟩ := h1
    obtain ⟨y, rfl, ey⟩ := h2
    exact ⟨.long (x * y), (x * y).toInt, Or.inr ⟨rfl, _, rfl, rfl⟩, (zn_i64 _).1, (zn_i64 _).2, fun g hg => (by cases hg), fun _ _ _ _ k hk => lv_lmul hx hb hd (k hk)⟩) K

theorem zm_land (hx : p.tables.exec = Jvm.exec) (hb : c.code = cc) (hS : q.2.2.2.1 = (1, fb) :: (1, fa) :: S) (hd : decode cc pc = .ok (.land, 1)) (K : zw D cA RT ro sz H0 Ga nL (zk_G p l e R s m args below meth c cells slots Q D RT ro ms) (pc + 1) (zx_fR 1 (-9223372036854775808) 9223372036854775807 q S [])) : zw D cA RT ro sz H0 Ga nL (zk_G p l e R s m args below meth c cells slots Q D RT ro ms) pc q :=
  zi_binF hS (fun _ _ g hg => (by cases hg)) (fun v vx vy H ls st h _ _ h1 h2 => by
    obtain ⟨x, rfl, ex⟩ := h1
    obtain ⟨y, rfl, ey⟩ := h2
    exact ⟨.long (x &&& y), (x &&& y).toInt, Or.inr ⟨rfl, _, rfl, rfl⟩, (zn_i64 _).1, (zn_i64 _).2, fun g hg => (by cases hg), fun _ _ _ _ k hk => lv_land hx hb hd (k hk)⟩) K

theorem zm_lor (hx : p.tables.exec = Jvm.exec) (hb : c.code = cc) (hS : q.2.2.2.1 = (1, fb) :: (1, fa) :: S) (hd : decode cc pc = .ok (.lor, 1)) (K : zw D cA RT ro sz H0 Ga nL (zk_G p l e R s m args below meth c cells slots Q D RT ro ms) (pc + 1) (zx_fR 1 (-9223372036854775808) 9223372036854775807 q S [])) : zw D cA RT ro sz H0 Ga nL (zk_G p l e R s m args below meth c cells slots Q D RT ro ms) pc q :=
  zi_binF hS (fun _ _ g hg => (by cases hg)) (fun v vx vy H ls st h _ _ h1 h2 => by
    obtain ⟨x, rfl, ex⟩ := h1
    obtain ⟨y, rfl, ey⟩ := h2
    exact ⟨.long (x ||| y), (x ||| y).toInt, Or.inr ⟨rfl, _, rfl, rfl⟩, (zn_i64 _).1, (zn_i64 _).2, fun g hg => (by cases hg), fun _ _ _ _ k hk => lv_lor hx hb hd (k hk)⟩) K

theorem zm_lxor (hx : p.tables.exec = Jvm.exec) (hb : c.code = cc) (hS : q.2.2.2.1 = (1, fb) :: (1, fa) :: S) (hd : decode cc pc = .ok (.lxor, 1)) (K : zw D cA RT ro sz H0 Ga nL (zk_G p l e R s m args below meth c cells slots Q D RT ro ms) (pc + 1) (zx_fR 1 (-9223372036854775808) 9223372036854775807 q S [])) : zw D cA RT ro sz H0 Ga nL (zk_G p l e R s m args below meth c cells slots Q D RT ro ms) pc q :=
  zi_binF hS (fun _ _ g hg => (by cases hg)) (fun v vx vy H ls st h _ _ h1 h2 => by
    obtain ⟨x, rfl, ex⟩ := h1
    obtain ⟨y, rfl, ey⟩ := h2
    exact ⟨.long (x ^^^ y), (x ^^^ y).toInt, Or.inr ⟨rfl, _, rfl, rfl⟩, (zn_i64 _).1, (zn_i64 _).2, fun g hg => (by cases hg), fun _ _ _ _ k hk => lv_lxor hx hb hd (k hk)⟩) K

theorem zm_iandF (hx : p.tables.exec = Jvm.exec) (hb : c.code = cc) (hS : q.2.2.2.1 = (0, fb) :: (0, fa) :: S) (hd : decode cc pc = .ok (.iand, 1)) (K : zw D cA RT ro sz H0 Ga nL (zk_G p l e R s m args below meth c cells slots Q D RT ro ms) (pc + 1) (zx_fR 0 (-2147483648) 2147483647 q S [])) : zw D cA RT ro sz H0 Ga nL (zk_G p l e R s m args below meth c cells slots Q D RT ro ms) pc q :=
  zi_binF hS (fun _ _ g hg => (by cases hg)) (fun v vx vy H ls st h _ _ h1 h2 => by
    obtain ⟨x, rfl, ex⟩ := h1
    obtain ⟨y, rfl, ey⟩ := h2
    exact ⟨.int (x &&& y), (x &&& y).toInt, Or.inl ⟨rfl, _, rfl, rfl⟩, (zn_i32 _).1, (zn_i32 _).2, fun g hg => (by cases hg), fun _ _ _ _ k hk => lv_iand hx hb hd (k hk)⟩) K

theorem zm_lshl (hx : p.tables.exec = Jvm.exec) (hb : c.code = cc) (hS : q.2.2.2.1 = (0, fb) :: (1, fa) :: S) (hd : decode cc pc = .ok (.lshl, 1)) (K : zw D cA RT ro sz H0 Ga nL (zk_G p l e R s m args below meth c cells slots Q D RT ro ms) (pc + 1) (zx_fR 1 (-9223372036854775808) 9223372036854775807 q S [])) : zw D cA RT ro sz H0 Ga nL (zk_G p l e R s m args below meth c cells slots Q D RT ro ms) pc q :=
  zi_binF hS (fun _ _ g hg => (by cases hg)) (fun v vx vy H ls st h _ _ h1 h2 => by
    obtain ⟨x, rfl, ex⟩ := h1
    obtain ⟨y, rfl, ey⟩ := h2
    exact ⟨.long (x <<< (y.toInt64 &&& 63)), (x <<< (y.toInt64 &&& 63)).toInt, Or.inr ⟨rfl, _, rfl, rfl⟩, (zn_i64 _).1, (zn_i64 _).2, fun g hg => (by cases hg), fun _ _ _ _ k hk => lv_lshl hx hb hd rfl (k hk)⟩) K

theorem zm_lshr (hx : p.tables.exec = Jvm.exec) (hb : c.code = cc) (hS : q.2.2.2.1 = (0, fb) :: (1, fa) :: S) (hd : decode cc pc = .ok (.lshr, 1)) (K : zw D cA RT ro sz H0 Ga nL (zk_G p l e R s m args below meth c cells slots Q D RT ro ms) (pc + 1) (zx_fR 1 (-9223372036854775808) 9223372036854775807 q S [])) : zw D cA RT ro sz H0 Ga nL (zk_G p l e R s m args below meth c cells slots Q D RT ro ms) pc q :=
  zi_binF hS (fun _ _ g hg => (by cases hg)) (fun v vx vy H ls st h _ _ h1 h2 => by
    obtain ⟨x, rfl, ex⟩ := h1
    obtain ⟨y, rfl, ey⟩ := h2
    exact ⟨.long (x >>> (y.toInt64 &&& 63)), (x >>> (y.toInt64 &&& 63)).toInt, Or.inr ⟨rfl, _, rfl, rfl⟩, (zn_i64 _).1, (zn_i64 _).2, fun g hg => (by cases hg), fun _ _ _ _ k hk => lv_lshr hx hb hd rfl (k hk)⟩) K

theorem zm_lushr (hx : p.tables.exec = Jvm.exec) (hb : c.code = cc) (hS : q.2.2.2.1 = (0, fb) :: (1, fa) :: S) (hd : decode cc pc = .ok (.lushr, 1)) (K : zw D cA RT ro sz H0 Ga nL (zk_G p l e R s m args below meth c cells slots Q D RT ro ms) (pc + 1) (zx_fR 1 (-9223372036854775808) 9223372036854775807 q S [])) : zw D cA RT ro sz H0 Ga nL (zk_G p l e R s m args below meth c cells slots Q D RT ro ms) pc q :=
  zi_binF hS (fun _ _ g hg => (by cases hg)) (fun v vx vy H ls st h _ _ h1 h2 => by
    obtain ⟨x, rfl, ex⟩ := h1
    obtain ⟨y, rfl, ey⟩ := h2
    exact ⟨.long ((x.toUInt64 >>> (y.toInt64.toUInt64 &&& Int64.toUInt64 63)).toInt64), ((x.toUInt64 >>> (y.toInt64.toUInt64 &&& Int64.toUInt64 63)).toInt64).toInt, Or.inr ⟨rfl, _, rfl, rfl⟩, (zn_i64 _).1, (zn_i64 _).2, fun g hg => (by cases hg), fun _ _ _ _ k hk => lv_lushr hx hb hd rfl (k hk)⟩) K

theorem zm_idivF (hx : p.tables.exec = Jvm.exec) (hb : c.code = cc) (hS : q.2.2.2.1 = (0, fb) :: (0, fa) :: S) (hp : zl_le q.1 q.2.1 (zl_sub (zl_k 1) fb) = true) (hd : decode cc pc = .ok (.idiv, 1)) (K : zw D cA RT ro sz H0 Ga nL (zk_G p l e R s m args below meth c cells slots Q D RT ro ms) (pc + 1) (zx_fR 0 (-2147483648) 2147483647 q S [])) : zw D cA RT ro sz H0 Ga nL (zk_G p l e R s m args below meth c cells slots Q D RT ro ms) pc q :=
  zi_binF hS (fun _ _ g hg => (by cases hg)) (fun v vx vy H ls st h _ _ h1 h2 => by
    obtain ⟨x, rfl, ex⟩ := h1
    obtain ⟨y, rfl, ey⟩ := h2
    have h3 := zl_le_ok h.1 h.2.1 hp
    rw [zl_sub_at, zl_k_at] at h3
    dsimp only at ey
    have h4 : ¬ y = 0 := fun q => by
      rw [q] at ey
      have : (0 : Int32).toInt = 0 := rfl
      omega
    exact ⟨.int (x / y), (x / y).toInt, Or.inl ⟨rfl, _, rfl, rfl⟩, (zn_i32 _).1, (zn_i32 _).2, fun g hg => (by cases hg), fun _ _ _ _ k hk => lv_idiv hx hb hd h4 (k hk)⟩) K

theorem zm_iremF (hx : p.tables.exec = Jvm.exec) (hb : c.code = cc) (hS : q.2.2.2.1 = (0, fb) :: (0, fa) :: S) (hp : zl_le q.1 q.2.1 (zl_sub (zl_k 1) fb) = true) (hd : decode cc pc = .ok (.irem, 1)) (K : zw D cA RT ro sz H0 Ga nL (zk_G p l e R s m args below meth c cells slots Q D RT ro ms) (pc + 1) (zx_fR 0 (-2147483648) 2147483647 q S [])) : zw D cA RT ro sz H0 Ga nL (zk_G p l e R s m args below meth c cells slots Q D RT ro ms) pc q :=
  zi_binF hS (fun _ _ g hg => (by cases hg)) (fun v vx vy H ls st h _ _ h1 h2 => by
    obtain ⟨x, rfl, ex⟩ := h1
    obtain ⟨y, rfl, ey⟩ := h2
    have h3 := zl_le_ok h.1 h.2.1 hp
    rw [zl_sub_at, zl_k_at] at h3
    dsimp only at ey
    have h4 : ¬ y = 0 := fun q => by
      rw [q] at ey
      have : (0 : Int32).toInt = 0 := rfl
      omega
    exact ⟨.int (x - x / y * y), (x - x / y * y).toInt, Or.inl ⟨rfl, _, rfl, rfl⟩, (zn_i32 _).1, (zn_i32 _).2, fun g hg => (by cases hg), fun _ _ _ _ k hk => lv_irem hx hb hd h4 (k hk)⟩) K

theorem zm_ldivF (hx : p.tables.exec = Jvm.exec) (hb : c.code = cc) (hS : q.2.2.2.1 = (1, fb) :: (1, fa) :: S) (hp : zl_le q.1 q.2.1 (zl_sub (zl_k 1) fb) = true) (hd : decode cc pc = .ok (.ldiv, 1)) (K : zw D cA RT ro sz H0 Ga nL (zk_G p l e R s m args below meth c cells slots Q D RT ro ms) (pc + 1) (zx_fR 1 (-9223372036854775808) 9223372036854775807 q S [])) : zw D cA RT ro sz H0 Ga nL (zk_G p l e R s m args below meth c cells slots Q D RT ro ms) pc q :=
  zi_binF hS (fun _ _ g hg => (by cases hg)) (fun v vx vy H ls st h _ _ h1 h2 => by
    obtain ⟨x, rfl, ex⟩ := h1
    obtain ⟨y, rfl, ey⟩ := h2
    have h3 := zl_le_ok h.1 h.2.1 hp
    rw [zl_sub_at, zl_k_at] at h3
    dsimp only at ey
    have h4 : ¬ y = 0 := fun q => by
      rw [q] at ey
      have : (0 : Int64).toInt = 0 := rfl
      omega
    exact ⟨.long (x / y), (x / y).toInt, Or.inr ⟨rfl, _, rfl, rfl⟩, (zn_i64 _).1, (zn_i64 _).2, fun g hg => (by cases hg), fun _ _ _ _ k hk => lv_ldiv hx hb hd h4 (k hk)⟩) K

theorem zm_lremF (hx : p.tables.exec = Jvm.exec) (hb : c.code = cc) (hS : q.2.2.2.1 = (1, fb) :: (1, fa) :: S) (hp : zl_le q.1 q.2.1 (zl_sub (zl_k 1) fb) = true) (hd : decode cc pc = .ok (.lrem, 1)) (K : zw D cA RT ro sz H0 Ga nL (zk_G p l e R s m args below meth c cells slots Q D RT ro ms) (pc + 1) (zx_fR 1 (-9223372036854775808) 9223372036854775807 q S [])) : zw D cA RT ro sz H0 Ga nL (zk_G p l e R s m args below meth c cells slots Q D RT ro ms) pc q :=
  zi_binF hS (fun _ _ g hg => (by cases hg)) (fun v vx vy H ls st h _ _ h1 h2 => by
    obtain ⟨x, rfl, ex⟩ := h1
    obtain ⟨y, rfl, ey⟩ := h2
    have h3 := zl_le_ok h.1 h.2.1 hp
    rw [zl_sub_at, zl_k_at] at h3
    dsimp only at ey
    have h4 : ¬ y = 0 := fun q => by
      rw [q] at ey
      have : (0 : Int64).toInt = 0 := rfl
      omega
    exact ⟨.long (x - x / y * y), (x - x / y * y).toInt, Or.inr ⟨rfl, _, rfl, rfl⟩, (zn_i64 _).1, (zn_i64 _).2, fun g hg => (by cases hg), fun _ _ _ _ k hk => lv_lrem hx hb hd h4 (k hk)⟩) K

/-- the quotient's bounds: those of the dividend by n; and its relations to the dividend -/
def zx_dR (n : Int) (fa : zl_F) (i : Nat) (pos : Bool) : List zl_F := match pos with
  | true => [zl_sub (zl_sub fa (zl_mul n (zl_id i))) (zl_k (n - 1)), zl_sub (zl_mul n (zl_id i)) fa]
  | false => [zl_sub (zl_sub fa (zl_mul n (zl_id i))) (zl_k (n - 1)), zl_sub (zl_sub (zl_mul n (zl_id i)) fa) (zl_k (n - 1))]
def zx_ps (q : zs_S) (f : zl_F) : Bool := zl_le q.1 q.2.1 (zl_neg f)
theorem zx_dR_wf {n : Int} {fa : zl_F} {i : Nat} (pos : Bool) (h : zl_wf i fa) : ∀ g ∈ zx_dR n fa i pos, zl_wf (i + 1) g := by
  have h1 : zl_wf (i + 1) fa := h.mono (by omega)
  have h2 : zl_wf (i + 1) (zl_mul n (zl_id i)) := zl_mul_wf (zl_id_wf (by omega))
  intro g hg
  cases pos with
  | true =>
    simp only [zx_dR, List.mem_cons, List.not_mem_nil, or_false] at hg
    rcases hg with rfl | rfl
    · exact zl_sub_wf (zl_sub_wf h1 h2) zl_k_wf
    · exact zl_sub_wf h2 h1
  | false =>
    simp only [zx_dR, List.mem_cons, List.not_mem_nil, or_false] at hg
    rcases hg with rfl | rfl
    · exact zl_sub_wf (zl_sub_wf h1 h2) zl_k_wf
    · exact zl_sub_wf (zl_sub_wf h2 h1) zl_k_wf
theorem zx_dR_ok {n z : Int} {fa : zl_F} {i : Nat} {pos : Bool} {v : Nat → Int} (hn : 0 < n) (hw : zl_wf i fa) (hz : z = (zl_at v fa).tdiv n) (hp : pos = true → 0 ≤ zl_at v fa) : ∀ g ∈ zx_dR n fa i pos, zl_at (zl_up v i z) g ≤ 0 := by
  have e1 : zl_at (zl_up v i z) fa = zl_at v fa := zl_up_at hw
  have e2 : zl_at (zl_up v i z) (zl_mul n (zl_id i)) = n * z := by rw [zl_mul_at, zl_id_at]; simp [zl_up]
  have b := zn_tb (x := zl_at v fa) hn
  intro g hg
  cases pos with
  | true =>
    have b2 := zn_t0 hn (hp rfl)
    simp only [zx_dR, List.mem_cons, List.not_mem_nil, or_false] at hg
    rcases hg with rfl | rfl
    · rw [zl_sub_at, zl_sub_at, zl_k_at, e1, e2, hz]; omega
    · rw [zl_sub_at, e1, e2, hz]; omega
  | false =>
    simp only [zx_dR, List.mem_cons, List.not_mem_nil, or_false] at hg
    rcases hg with rfl | rfl
    · rw [zl_sub_at, zl_sub_at, zl_k_at, e1, e2, hz]; omega
    · rw [zl_sub_at, zl_sub_at, zl_k_at, e1, e2, hz]; omega

theorem zm_idivC (hx : p.tables.exec = Jvm.exec) (hb : c.code = cc) {n : Int} (hS : q.2.2.2.1 = (0, ([], n)) :: (0, fa) :: S) (hn : 0 < n) (hd : decode cc pc = .ok (.idiv, 1)) (K : zw D cA RT ro sz H0 Ga nL (zk_G p l e R s m args below meth c cells slots Q D RT ro ms) (pc + 1) (zx_fR 0 (-2147483648) 2147483647 q S (zx_dR n fa q.1.length (zx_ps q fa)))) : zw D cA RT ro sz H0 Ga nL (zk_G p l e R s m args below meth c cells slots Q D RT ro ms) pc q :=
  zi_binF hS (fun ha _ => zx_dR_wf _ ha) (fun v vx vy H ls st h wa _ h1 h2 => by
    obtain ⟨x, rfl, ex⟩ := h1
    obtain ⟨y, rfl, ey⟩ := h2
    dsimp only at ex ey wa
    have ey : y.toInt = n := ey.trans (zl_k_at v n)
    have h4 : ¬ y = 0 := fun q => by
      rw [q] at ey
      have : (0 : Int32).toInt = 0 := rfl
      omega
    refine ⟨.int (x / y), (x / y).toInt, Or.inl ⟨rfl, _, rfl, rfl⟩, (zn_i32 _).1, (zn_i32 _).2, zx_dR_ok hn wa (by rw [zn_div (by omega), ex, ey]) (fun hp => ?_), fun _ _ _ _ k hk => lv_idiv hx hb hd h4 (k hk)⟩
    have h5 := zl_le_ok h.1 h.2.1 hp
    rw [zl_neg_at] at h5
    show 0 ≤ zl_at v fa
    omega) K

theorem zm_ldivC (hx : p.tables.exec = Jvm.exec) (hb : c.code = cc) {n : Int} (hS : q.2.2.2.1 = (1, ([], n)) :: (1, fa) :: S) (hn : 0 < n) (hd : decode cc pc = .ok (.ldiv, 1)) (K : zw D cA RT ro sz H0 Ga nL (zk_G p l e R s m args below meth c cells slots Q D RT ro ms) (pc + 1) (zx_fR 1 (-9223372036854775808) 9223372036854775807 q S (zx_dR n fa q.1.length (zx_ps q fa)))) : zw D cA RT ro sz H0 Ga nL (zk_G p l e R s m args below meth c cells slots Q D RT ro ms) pc q :=
  zi_binF hS (fun ha _ => zx_dR_wf _ ha) (fun v vx vy H ls st h wa _ h1 h2 => by
    obtain ⟨x, rfl, ex⟩ := h1
    obtain ⟨y, rfl, ey⟩ := h2
    dsimp only at ex ey wa
    have ey : y.toInt = n := ey.trans (zl_k_at v n)
    have h4 : ¬ y = 0 := fun q => by
      rw [q] at ey
      have : (0 : Int64).toInt = 0 := rfl
      omega
    refine ⟨.long (x / y), (x / y).toInt, Or.inr ⟨rfl, _, rfl, rfl⟩, (zn_i64 _).1, (zn_i64 _).2, zx_dR_ok hn wa (by rw [zn_divL (by omega), ex, ey]) (fun hp => ?_), fun _ _ _ _ k hk => lv_ldiv hx hb hd h4 (k hk)⟩
    have h5 := zl_le_ok h.1 h.2.1 hp
    rw [zl_neg_at] at h5
    show 0 ≤ zl_at v fa
    omega) K

theorem zm_iremCp (hx : p.tables.exec = Jvm.exec) (hb : c.code = cc) {n : Int} (hS : q.2.2.2.1 = (0, ([], n)) :: (0, fa) :: S) (hn : 0 < n) (hp : zx_ps q fa = true) (hd : decode cc pc = .ok (.irem, 1)) (K : zw D cA RT ro sz H0 Ga nL (zk_G p l e R s m args below meth c cells slots Q D RT ro ms) (pc + 1) (zx_fR 0 0 (n - 1) q S [zl_sub (zl_id q.1.length) fa])) : zw D cA RT ro sz H0 Ga nL (zk_G p l e R s m args below meth c cells slots Q D RT ro ms) pc q :=
  zi_binF hS (fun ha _ g hg => (by rw [List.mem_singleton.mp hg]; exact zl_sub_wf (zl_id_wf (by omega)) (zl_wf.mono ha (by omega)))) (fun v vx vy H ls st h wa _ h1 h2 => by
    obtain ⟨x, rfl, ex⟩ := h1
    obtain ⟨y, rfl, ey⟩ := h2
    dsimp only at ex ey wa
    have ey : y.toInt = n := ey.trans (zl_k_at v n)
    have h4 : ¬ y = 0 := fun q => by
      rw [q] at ey
      have : (0 : Int32).toInt = 0 := rfl
      omega
    have h3 := zn_rem (x := x) (y := y) (by omega)
    rw [ey] at h3
    have h5 := zl_le_ok h.1 h.2.1 hp
    rw [zl_neg_at] at h5
    have h6 := zn_tm (x := x.toInt) (k := n) hn
    have h7 := h6.2.2 (by omega)
    refine ⟨.int (x - x / y * y), (x - x / y * y).toInt, Or.inl ⟨rfl, _, rfl, rfl⟩, by rw [h3]; omega, by rw [h3]; omega, fun g hg => ?_, fun _ _ _ _ k hk => lv_irem hx hb hd h4 (k hk)⟩
    rw [List.mem_singleton.mp hg, zl_sub_at, zl_id_at, zl_up_at wa, h3]
    simp only [zl_up, if_pos]
    omega) K

theorem zm_iremC (hx : p.tables.exec = Jvm.exec) (hb : c.code = cc) {n : Int} (hS : q.2.2.2.1 = (0, ([], n)) :: (0, fa) :: S) (hn : 0 < n) (hd : decode cc pc = .ok (.irem, 1)) (K : zw D cA RT ro sz H0 Ga nL (zk_G p l e R s m args below meth c cells slots Q D RT ro ms) (pc + 1) (zx_fR 0 (-(n - 1)) (n - 1) q S [])) : zw D cA RT ro sz H0 Ga nL (zk_G p l e R s m args below meth c cells slots Q D RT ro ms) pc q :=
  zi_binF hS (fun _ _ g hg => (by cases hg)) (fun v vx vy H ls st h wa _ h1 h2 => by
    obtain ⟨x, rfl, ex⟩ := h1
    obtain ⟨y, rfl, ey⟩ := h2
    dsimp only at ex ey wa
    have ey : y.toInt = n := ey.trans (zl_k_at v n)
    have h4 : ¬ y = 0 := fun q => by
      rw [q] at ey
      have : (0 : Int32).toInt = 0 := rfl
      omega
    have h3 := zn_rem (x := x) (y := y) (by omega)
    rw [ey] at h3
    have h6 := zn_tm (x := x.toInt) (k := n) hn
    exact ⟨.int (x - x / y * y), (x - x / y * y).toInt, Or.inl ⟨rfl, _, rfl, rfl⟩, by rw [h3]; omega, by rw [h3]; omega, fun g hg => (by cases hg), fun _ _ _ _ k hk => lv_irem hx hb hd h4 (k hk)⟩) K

theorem zm_lremCp (hx : p.tables.exec = Jvm.exec) (hb : c.code = cc) {n : Int} (hS : q.2.2.2.1 = (1, ([], n)) :: (1, fa) :: S) (hn : 0 < n) (hp : zx_ps q fa = true) (hd : decode cc pc = .ok (.lrem, 1)) (K : zw D cA RT ro sz H0 Ga nL (zk_G p l e R s m args below meth c cells slots Q D RT ro ms) (pc + 1) (zx_fR 1 0 (n - 1) q S [zl_sub (zl_id q.1.length) fa])) : zw D cA RT ro sz H0 Ga nL (zk_G p l e R s m args below meth c cells slots Q D RT ro ms) pc q :=
  zi_binF hS (fun ha _ g hg => (by rw [List.mem_singleton.mp hg]; exact zl_sub_wf (zl_id_wf (by omega)) (zl_wf.mono ha (by omega)))) (fun v vx vy H ls st h wa _ h1 h2 => by
    obtain ⟨x, rfl, ex⟩ := h1
    obtain ⟨y, rfl, ey⟩ := h2
    dsimp only at ex ey wa
    have ey : y.toInt = n := ey.trans (zl_k_at v n)
    have h4 : ¬ y = 0 := fun q => by
      rw [q] at ey
      have : (0 : Int64).toInt = 0 := rfl
      omega
    have h3 := zn_remL (x := x) (y := y) (by omega)
    rw [ey] at h3
    have h5 := zl_le_ok h.1 h.2.1 hp
    rw [zl_neg_at] at h5
    have h6 := zn_tm (x := x.toInt) (k := n) hn
    have h7 := h6.2.2 (by omega)
    refine ⟨.long (x - x / y * y), (x - x / y * y).toInt, Or.inr ⟨rfl, _, rfl, rfl⟩, by rw [h3]; omega, by rw [h3]; omega, fun g hg => ?_, fun _ _ _ _ k hk => lv_lrem hx hb hd h4 (k hk)⟩
    rw [List.mem_singleton.mp hg, zl_sub_at, zl_id_at, zl_up_at wa, h3]
    simp only [zl_up, if_pos]
    omega) K

theorem zm_lremC (hx : p.tables.exec = Jvm.exec) (hb : c.code = cc) {n : Int} (hS : q.2.2.2.1 = (1, ([], n)) :: (1, fa) :: S) (hn : 0 < n) (hd : decode cc pc = .ok (.lrem, 1)) (K : zw D cA RT ro sz H0 Ga nL (zk_G p l e R s m args below meth c cells slots Q D RT ro ms) (pc + 1) (zx_fR 1 (-(n - 1)) (n - 1) q S [])) : zw D cA RT ro sz H0 Ga nL (zk_G p l e R s m args below meth c cells slots Q D RT ro ms) pc q :=
  zi_binF hS (fun _ _ g hg => (by cases hg)) (fun v vx vy H ls st h wa _ h1 h2 => by
    obtain ⟨x, rfl, ex⟩ := h1
    obtain ⟨y, rfl, ey⟩ := h2
    dsimp only at ex ey wa
    have ey : y.toInt = n := ey.trans (zl_k_at v n)
    have h4 : ¬ y = 0 := fun q => by
      rw [q] at ey
      have : (0 : Int64).toInt = 0 := rfl
      omega
    have h3 := zn_remL (x := x) (y := y) (by omega)
    rw [ey] at h3
    have h6 := zn_tm (x := x.toInt) (k := n) hn
    exact ⟨.long (x - x / y * y), (x - x / y * y).toInt, Or.inr ⟨rfl, _, rfl, rfl⟩, by rw [h3]; omega, by rw [h3]; omega, fun g hg => (by cases hg), fun _ _ _ _ k hk => lv_lrem hx hb hd h4 (k hk)⟩) K

theorem zm_iandC (hx : p.tables.exec = Jvm.exec) (hb : c.code = cc) {n : Int} (hS : q.2.2.2.1 = (0, ([], n)) :: (0, fa) :: S) (hn : 0 ≤ n) (hd : decode cc pc = .ok (.iand, 1)) (K : zw D cA RT ro sz H0 Ga nL (zk_G p l e R s m args below meth c cells slots Q D RT ro ms) (pc + 1) (zx_fR 0 0 n q S [])) : zw D cA RT ro sz H0 Ga nL (zk_G p l e R s m args below meth c cells slots Q D RT ro ms) pc q :=
  zi_binF hS (fun _ _ g hg => (by cases hg)) (fun v vx vy H ls st h _ _ h1 h2 => by
    obtain ⟨x, rfl, ex⟩ := h1
    obtain ⟨y, rfl, ey⟩ := h2
    dsimp only at ex ey
    have ey : y.toInt = n := ey.trans (zl_k_at v n)
    have h3 := zn_and (x := x) (y := y) (by omega)
    exact ⟨.int (x &&& y), (x &&& y).toInt, Or.inl ⟨rfl, _, rfl, rfl⟩, h3.1, by omega, fun g hg => (by cases hg), fun _ _ _ _ k hk => lv_iand hx hb hd (k hk)⟩) K

theorem zm_ineg (hx : p.tables.exec = Jvm.exec) (hb : c.code = cc) (hS : q.2.2.2.1 = (0, fa) :: S) (hd : decode cc pc = .ok (.ineg, 1)) (K : zw D cA RT ro sz H0 Ga nL (zk_G p l e R s m args below meth c cells slots Q D RT ro ms) (pc + 1) (zx_pu 0 (-2147483648) 2147483647 q S (zl_neg fa))) : zw D cA RT ro sz H0 Ga nL (zk_G p l e R s m args below meth c cells slots Q D RT ro ms) pc q :=
  zi_un (f := (zl_neg fa)) hS (fun ha => zl_mul_wf ha) (fun v vx h1 => by
    obtain ⟨x, rfl, ex⟩ := h1
    dsimp only at ex
    refine ⟨.int (-x), (-x).toInt, Or.inl ⟨rfl, _, rfl, rfl⟩, (zn_i32 _).1, (zn_i32 _).2, fun g1 g2 => ?_, fun _ _ _ _ k hk => lv_ineg hx hb hd (k hk)⟩
    rw [zl_neg_at, ← ex] at g1 g2 ⊢; exact zn_neg g1 g2) K

theorem zm_lneg (hx : p.tables.exec = Jvm.exec) (hb : c.code = cc) (hS : q.2.2.2.1 = (1, fa) :: S) (hd : decode cc pc = .ok (.lneg, 1)) (K : zw D cA RT ro sz H0 Ga nL (zk_G p l e R s m args below meth c cells slots Q D RT ro ms) (pc + 1) (zx_pu 1 (-9223372036854775808) 9223372036854775807 q S (zl_neg fa))) : zw D cA RT ro sz H0 Ga nL (zk_G p l e R s m args below meth c cells slots Q D RT ro ms) pc q :=
  zi_un (f := (zl_neg fa)) hS (fun ha => zl_mul_wf ha) (fun v vx h1 => by
    obtain ⟨x, rfl, ex⟩ := h1
    dsimp only at ex
    refine ⟨.long (-x), (-x).toInt, Or.inr ⟨rfl, _, rfl, rfl⟩, (zn_i64 _).1, (zn_i64 _).2, fun g1 g2 => ?_, fun _ _ _ _ k hk => lv_lneg hx hb hd (k hk)⟩
    rw [zl_neg_at, ← ex] at g1 g2 ⊢; exact zn_negL g1 g2) K

theorem zm_i2l (hx : p.tables.exec = Jvm.exec) (hb : c.code = cc) (hS : q.2.2.2.1 = (0, fa) :: S) (hd : decode cc pc = .ok (.i2l, 1)) (K : zw D cA RT ro sz H0 Ga nL (zk_G p l e R s m args below meth c cells slots Q D RT ro ms) (pc + 1) (zx_pu 1 (-9223372036854775808) 9223372036854775807 q S fa)) : zw D cA RT ro sz H0 Ga nL (zk_G p l e R s m args below meth c cells slots Q D RT ro ms) pc q :=
  zi_un (f := fa) hS (fun ha => ha) (fun v vx h1 => by
    obtain ⟨x, rfl, ex⟩ := h1
    dsimp only at ex
    refine ⟨.long (x.toInt64), (x.toInt64).toInt, Or.inr ⟨rfl, _, rfl, rfl⟩, (zn_i64 _).1, (zn_i64 _).2, fun g1 g2 => ?_, fun _ _ _ _ k hk => lv_i2l hx hb hd rfl (k hk)⟩
    rw [← ex]; exact zn_i2l x) K

theorem zm_l2i (hx : p.tables.exec = Jvm.exec) (hb : c.code = cc) (hS : q.2.2.2.1 = (1, fa) :: S) (hd : decode cc pc = .ok (.l2i, 1)) (K : zw D cA RT ro sz H0 Ga nL (zk_G p l e R s m args below meth c cells slots Q D RT ro ms) (pc + 1) (zx_pu 0 (-2147483648) 2147483647 q S fa)) : zw D cA RT ro sz H0 Ga nL (zk_G p l e R s m args below meth c cells slots Q D RT ro ms) pc q :=
  zi_un (f := fa) hS (fun ha => ha) (fun v vx h1 => by
    obtain ⟨x, rfl, ex⟩ := h1
    dsimp only at ex
    refine ⟨.int (x.toInt32), (x.toInt32).toInt, Or.inl ⟨rfl, _, rfl, rfl⟩, (zn_i32 _).1, (zn_i32 _).2, fun g1 g2 => ?_, fun _ _ _ _ k hk => lv_l2i hx hb hd rfl (k hk)⟩
    rw [← ex] at g1 g2 ⊢; exact zn_l2i g1 g2) K

theorem zm_i2b (hx : p.tables.exec = Jvm.exec) (hb : c.code = cc) (hS : q.2.2.2.1 = (0, fa) :: S) (hd : decode cc pc = .ok (.i2b, 1)) (K : zw D cA RT ro sz H0 Ga nL (zk_G p l e R s m args below meth c cells slots Q D RT ro ms) (pc + 1) (zx_pu 0 (-128) 127 q S fa)) : zw D cA RT ro sz H0 Ga nL (zk_G p l e R s m args below meth c cells slots Q D RT ro ms) pc q :=
  zi_un (f := fa) hS (fun ha => ha) (fun v vx h1 => by
    obtain ⟨x, rfl, ex⟩ := h1
    dsimp only at ex
    refine ⟨.int (x.toInt8.toInt32), (x.toInt8.toInt32).toInt, Or.inl ⟨rfl, _, rfl, rfl⟩, (zn_i2b x).1, (zn_i2b x).2, fun g1 g2 => ?_, fun _ _ _ _ k hk => lv_i2b hx hb hd rfl (k hk)⟩
    rw [← ex] at g1 g2 ⊢; exact zn_ibx g1 g2) K

theorem zm_lcmp (hx : p.tables.exec = Jvm.exec) (hb : c.code = cc) (hS : q.2.2.2.1 = (1, fb) :: (1, fa) :: S) (hd : decode cc pc = .ok (.lcmp, 1)) (K : zw D cA RT ro sz H0 Ga nL (zk_G p l e R s m args below meth c cells slots Q D RT ro ms) (pc + 1) (zq_S q ((3, zl_sub fa fb) :: S))) : zw D cA RT ro sz H0 Ga nL (zk_G p l e R s m args below meth c cells slots Q D RT ro ms) pc q :=
  zi_stk (fun w z hz => by
    rw [hS] at w
    rcases List.mem_cons.mp hz with e | e
    · rw [e]; exact zl_sub_wf (w (1, fa) (List.mem_cons_of_mem _ List.mem_cons_self)) (w (1, fb) List.mem_cons_self)
    · exact w z (List.mem_cons_of_mem _ (List.mem_cons_of_mem _ e))) (fun v st h => by
    rw [hS] at h
    match st, h with
    | vy :: vx :: st, h =>
      obtain ⟨y, rfl, ey⟩ := h.1
      obtain ⟨x, rfl, ex⟩ := h.2.1
      dsimp only at ex ey
      exact ⟨.int (lg_cmp x y) :: st, ⟨⟨lg_cmp x y, rfl, by rw [zn_sg, zl_sub_at, ex, ey]⟩, h.2.2⟩, fun _ _ _ k hk => W.lcmp hx hb hd (k hk)⟩) K

theorem zm_dup (hx : p.tables.exec = Jvm.exec) (hb : c.code = cc) {z : zv_V} (hS : q.2.2.2.1 = z :: S) (hz : z.1 ≠ 1) (hd : decode cc pc = .ok (.dup, 1)) (K : zw D cA RT ro sz H0 Ga nL (zk_G p l e R s m args below meth c cells slots Q D RT ro ms) (pc + 1) (zq_S q (z :: z :: S))) : zw D cA RT ro sz H0 Ga nL (zk_G p l e R s m args below meth c cells slots Q D RT ro ms) pc q :=
  zi_stk (fun w y hy => by
    rw [hS] at w
    rcases List.mem_cons.mp hy with e | e
    · rw [e]; exact w z List.mem_cons_self
    · exact w y e) (fun v st h => by
    rw [hS] at h
    match st, h with
    | x :: st, h => exact ⟨x :: x :: st, ⟨h.1, h⟩, fun _ _ _ k hk => lv_dup hx hb hd (by rw [zv_cat h.1, if_neg hz]) (k hk)⟩) K

theorem zm_dup2 (hx : p.tables.exec = Jvm.exec) (hb : c.code = cc) {z y : zv_V} (hS : q.2.2.2.1 = z :: y :: S) (hz : z.1 ≠ 1) (hy : y.1 ≠ 1) (hd : decode cc pc = .ok (.dup2, 1)) (K : zw D cA RT ro sz H0 Ga nL (zk_G p l e R s m args below meth c cells slots Q D RT ro ms) (pc + 1) (zq_S q (z :: y :: z :: y :: S))) : zw D cA RT ro sz H0 Ga nL (zk_G p l e R s m args below meth c cells slots Q D RT ro ms) pc q :=
  zi_stk (fun w u hu => by
    rw [hS] at w
    rcases List.mem_cons.mp hu with e | e
    · rw [e]; exact w z List.mem_cons_self
    · rcases List.mem_cons.mp e with e | e
      · rw [e]; exact w y (List.mem_cons_of_mem _ List.mem_cons_self)
      · exact w u e) (fun v st h => by
    rw [hS] at h
    match st, h with
    | a :: b :: st, h => exact ⟨a :: b :: a :: b :: st, ⟨h.1, h.2.1, h⟩, fun _ _ _ k hk => lv_dup2_11 hx hb hd (by rw [zv_cat h.1, if_neg hz]) (by rw [zv_cat h.2.1, if_neg hy]) (k hk)⟩) K

theorem zm_pop (hx : p.tables.exec = Jvm.exec) (hb : c.code = cc) {z : zv_V} (hS : q.2.2.2.1 = z :: S) (hz : z.1 ≠ 1) (hd : decode cc pc = .ok (.pop, 1)) (K : zw D cA RT ro sz H0 Ga nL (zk_G p l e R s m args below meth c cells slots Q D RT ro ms) (pc + 1) (zq_S q S)) : zw D cA RT ro sz H0 Ga nL (zk_G p l e R s m args below meth c cells slots Q D RT ro ms) pc q :=
  zi_stk (fun w y hy => by rw [hS] at w; exact w y (List.mem_cons_of_mem _ hy)) (fun v st h => by
    rw [hS] at h
    match st, h with
    | x :: st, h => exact ⟨st, h.2, fun _ _ _ k hk => lv_pop hx hb hd (by rw [zv_cat h.1, if_neg hz]) (k hk)⟩) K

theorem zm_pop2 (hx : p.tables.exec = Jvm.exec) (hb : c.code = cc) {z : zv_V} (hS : q.2.2.2.1 = z :: S) (hz : z.1 = 1) (hd : decode cc pc = .ok (.pop2, 1)) (K : zw D cA RT ro sz H0 Ga nL (zk_G p l e R s m args below meth c cells slots Q D RT ro ms) (pc + 1) (zq_S q S)) : zw D cA RT ro sz H0 Ga nL (zk_G p l e R s m args below meth c cells slots Q D RT ro ms) pc q :=
  zi_stk (fun w y hy => by rw [hS] at w; exact w y (List.mem_cons_of_mem _ hy)) (fun v st h => by
    rw [hS] at h
    match st, h with
    | x :: st, h => exact ⟨st, h.2, fun _ _ _ k hk => lv_pop2_2 hx hb hd (by rw [zv_cat h.1, if_pos hz]) (k hk)⟩) K

theorem zm_goto (hx : p.tables.exec = Jvm.exec) (hb : c.code = cc) {off : Int} {tgt : Nat} (ht : (pc : Int) + off = (tgt : Int)) (hd : decode cc pc = .ok (.goto off, 3)) (K : zw D cA RT ro sz H0 Ga nL (zk_G p l e R s m args below meth c cells slots Q D RT ro ms) tgt q) : zw D cA RT ro sz H0 Ga nL (zk_G p l e R s m args below meth c cells slots Q D RT ro ms) pc q :=
  fun hw v H locs ls st h hh hk => lv_goto hx hb hd ht (K hw v H locs ls st h hh hk)

theorem zm_if (hx : p.tables.exec = Jvm.exec) (hb : c.code = cc) {cd : Jvm.ClassFile.Cond} {z : zv_V} {off : Int} {tgt : Nat} (hS : q.2.2.2.1 = z :: S) (hz : z.1 = 0 ∨ z.1 = 3) (ht : (pc : Int) + off = (tgt : Int)) (hd : decode cc pc = .ok (.ifCond cd off, 3)) (Kt : zw D cA RT ro sz H0 Ga nL (zk_G p l e R s m args below meth c cells slots Q D RT ro ms) tgt (zx_br cd true (zq_S q S) z.2)) (Kf : zw D cA RT ro sz H0 Ga nL (zk_G p l e R s m args below meth c cells slots Q D RT ro ms) (pc + 3) (zx_br cd false (zq_S q S) z.2)) : zw D cA RT ro sz H0 Ga nL (zk_G p l e R s m args below meth c cells slots Q D RT ro ms) pc q :=
  zi_if cd hS hz (fun x _ _ _ _ kt kf hk => by
    have z0 : (0 : Int32).toInt = 0 := rfl
    cases cd with
    | eq => exact lv_if_eq hx hb hd ht (fun g => kt (by rw [g]; exact z0) hk) (fun g => kf (fun g2 => g (Int32.toInt_inj.mp (by rw [z0]; exact g2))) hk)
    | ne => exact lv_if_ne hx hb hd ht (fun g => kt (fun g2 => g (Int32.toInt_inj.mp (by rw [z0]; exact g2))) hk) (fun g => kf (fun g2 => g2 (by rw [g]; exact z0)) hk)
    | lt => exact lv_if_lt hx hb hd ht (fun g => kt (by have := Int32.lt_iff_toInt_lt.mp g; rw [z0] at this; exact this) hk) (fun g => kf (fun g2 => g (Int32.lt_iff_toInt_lt.mpr (by rw [z0]; exact g2))) hk)
    | ge => exact lv_if_ge hx hb hd ht (fun g => kt (by have := Int32.le_iff_toInt_le.mp g; rw [z0] at this; exact this) hk) (fun g => kf (fun g2 => g (Int32.le_iff_toInt_le.mpr (by rw [z0]; exact g2))) hk)
    | gt => exact lv_if_gt hx hb hd ht (fun g => kt (by have := Int32.lt_iff_toInt_lt.mp g; rw [z0] at this; exact this) hk) (fun g => kf (fun g2 => g (Int32.lt_iff_toInt_lt.mpr (by rw [z0]; exact g2))) hk)
    | le => exact lv_if_le hx hb hd ht (fun g => kt (by have := Int32.le_iff_toInt_le.mp g; rw [z0] at this; exact this) hk) (fun g => kf (fun g2 => g (Int32.le_iff_toInt_le.mpr (by rw [z0]; exact g2))) hk)) Kt Kf

theorem zm_icmp (hx : p.tables.exec = Jvm.exec) (hb : c.code = cc) {cd : Jvm.ClassFile.Cond} {off : Int} {tgt : Nat} (hS : q.2.2.2.1 = (0, fb) :: (0, fa) :: S) (ht : (pc : Int) + off = (tgt : Int)) (hd : decode cc pc = .ok (.if_icmp cd off, 3)) (Kt : zw D cA RT ro sz H0 Ga nL (zk_G p l e R s m args below meth c cells slots Q D RT ro ms) tgt (zx_br cd true (zq_S q S) (zl_sub fa fb))) (Kf : zw D cA RT ro sz H0 Ga nL (zk_G p l e R s m args below meth c cells slots Q D RT ro ms) (pc + 3) (zx_br cd false (zq_S q S) (zl_sub fa fb))) : zw D cA RT ro sz H0 Ga nL (zk_G p l e R s m args below meth c cells slots Q D RT ro ms) pc q :=
  zi_icmp cd hS rfl rfl (fun x y _ _ _ _ kt kf hk => by
    cases cd with
    | eq => exact lv_icmp_eq hx hb hd ht (fun g => kt (by rw [g]; exact Int.sub_self _) hk) (fun g => kf (fun g2 => g (Int32.toInt_inj.mp (by have : x.toInt - y.toInt = 0 := g2; omega))) hk)
    | ne => exact lv_icmp_ne hx hb hd ht (fun g => kt (fun g2 => g (Int32.toInt_inj.mp (by have : x.toInt - y.toInt = 0 := g2; omega))) hk) (fun g => kf (fun g2 => g2 (by rw [g]; exact Int.sub_self _)) hk)
    | lt => exact lv_icmp_lt hx hb hd ht (fun g => kt (by have := Int32.lt_iff_toInt_lt.mp g; show x.toInt - y.toInt < 0; omega) hk) (fun g => kf (fun g2 => g (Int32.lt_iff_toInt_lt.mpr (by have : x.toInt - y.toInt < 0 := g2; omega))) hk)
    | ge => exact lv_icmp_ge hx hb hd ht (fun g => kt (by have := Int32.le_iff_toInt_le.mp g; show 0 ≤ x.toInt - y.toInt; omega) hk) (fun g => kf (fun g2 => g (Int32.le_iff_toInt_le.mpr (by have : 0 ≤ x.toInt - y.toInt := g2; omega))) hk)
    | gt => exact lv_icmp_gt hx hb hd ht (fun g => kt (by have := Int32.lt_iff_toInt_lt.mp g; show 0 < x.toInt - y.toInt; omega) hk) (fun g => kf (fun g2 => g (Int32.lt_iff_toInt_lt.mpr (by have : 0 < x.toInt - y.toInt := g2; omega))) hk)
    | le => exact lv_icmp_le hx hb hd ht (fun g => kt (by have := Int32.le_iff_toInt_le.mp g; show x.toInt - y.toInt ≤ 0; omega) hk) (fun g => kf (fun g2 => g (Int32.le_iff_toInt_le.mpr (by have : x.toInt - y.toInt ≤ 0 := g2; omega))) hk)) Kt Kf
end ZN
