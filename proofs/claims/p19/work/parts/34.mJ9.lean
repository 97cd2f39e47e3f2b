def tJ9_floorDiv_f86c9 : List (Nat × Instr × Nat) := [(0, .lload_n 0, 1), (1, .lload_n 2, 1), (2, .ldiv, 1), (3, .lstore 4, 2), (5, .lload_n 0, 1), (6, .lload_n 2, 1), (7, .lxor, 1), (8, .lconst 0, 1), (9, .lcmp, 1), (10, .ifCond .ge 17, 3), (13, .lload 4, 2), (15, .lload_n 2, 1), (16, .lmul, 1), (17, .lload_n 0, 1), (18, .lcmp, 1), (19, .ifCond .eq 8, 3), (22, .lload 4, 2), (24, .lconst 1, 1), (25, .lsub, 1), (26, .lreturn, 1), (27, .lload 4, 2), (29, .lreturn, 1)]
set_option maxRecDepth 100000 in
theorem eJ9_floorDiv_f86c9 : ∀ x ∈ tJ9_floorDiv_f86c9, decode cJ9_floorDiv_f86c9 x.1 = .ok x.2 := by decide +kernel
def kJ9_floorDiv_f86c9 : zc_C := ([(1, (-9223372036854775808), 9223372036854775807), (1, 1, 9223372036854775807)], [], [], [], [], [(some (1, (-9223372036854775808), 9223372036854775807), [], [])])
def pJ9_floorDiv_f86c9 : List zp_P := []
def KJ9_floorDiv_f86c9 : zk_K := (6, RTg, [], [], [], [], [], [], [])
set_option maxRecDepth 100000 in
theorem qJ9_floorDiv_f86c9 : zy_ck KJ9_floorDiv_f86c9 tJ9_floorDiv_f86c9 pJ9_floorDiv_f86c9 kJ9_floorDiv_f86c9 2 1 4000 = true := by decide +kernel
set_option maxRecDepth 100000 in
theorem mJ9_floorDiv_f86c9 (l : Launch) (D : va_G) (cA : Nat → ClassId) (ro : Nat → Option Nat) (sz : Nat) (H0 : Heap) : zy_M l D cA RTg ro sz H0 (zKn D cA ro sz H0) yJ9_floorDiv_f86c9 (gW yJ9_floorDiv_f86c9 cJ9_floorDiv_f86c9 6 (some .long)) { frames := 0, cells := 0, slots := 0, locals := 0 } kJ9_floorDiv_f86c9 :=
  zy_met (zn := "MomentTexts$Zone") (K := KJ9_floorDiv_f86c9) (tb := tJ9_floorDiv_f86c9) (pts := pJ9_floorDiv_f86c9) (rc := 2) (N := 1) (fuel := 4000) (by decide +kernel) rfl rfl (by decide +kernel) rfl rfl (by decide +kernel) eJ9_floorDiv_f86c9 qJ9_floorDiv_f86c9 (fun p e s m args below meth c Q hx hb hml hown hts hKn => by
    have h2 : ∀ w ∈ gT, w.before args s = true := fun w hw => hts w (List.mem_cons_of_mem _ hw)
    exact ⟨hx, hb, zD_all h2 hKn.1, zArN hKn, (fun _ _ _ _ _ _ _ h => (nomatch h)), (fun _ _ h => (nomatch h)), (fun _ _ h => (nomatch h)), (zgs_n), zct_n⟩)
def tJ9_floorMod_f86c9 : List (Nat × Instr × Nat) := [(0, .lload_n 0, 1), (1, .lload_n 2, 1), (2, .lrem, 1), (3, .lstore 4, 2), (5, .lload_n 0, 1), (6, .lload_n 2, 1), (7, .lxor, 1), (8, .lconst 0, 1), (9, .lcmp, 1), (10, .ifCond .ge 15, 3), (13, .lload 4, 2), (15, .lconst 0, 1), (16, .lcmp, 1), (17, .ifCond .eq 8, 3), (20, .lload 4, 2), (22, .lload_n 2, 1), (23, .ladd, 1), (24, .lreturn, 1), (25, .lload 4, 2), (27, .lreturn, 1)]
set_option maxRecDepth 100000 in
theorem eJ9_floorMod_f86c9 : ∀ x ∈ tJ9_floorMod_f86c9, decode cJ9_floorMod_f86c9 x.1 = .ok x.2 := by decide +kernel
def kJ9_floorMod_f86c9 : zc_C := ([(1, (-9223372036854775808), 9223372036854775807), (1, 1, 9223372036854775807)], [], [], [], [], [(some (1, (-9223372036854775808), 9223372036854775807), [], [])])
def pJ9_floorMod_f86c9 : List zp_P := []
def KJ9_floorMod_f86c9 : zk_K := (6, RTg, [], [], [], [], [], [], [])
set_option maxRecDepth 100000 in
theorem qJ9_floorMod_f86c9 : zy_ck KJ9_floorMod_f86c9 tJ9_floorMod_f86c9 pJ9_floorMod_f86c9 kJ9_floorMod_f86c9 2 1 4000 = true := by decide +kernel
set_option maxRecDepth 100000 in
theorem mJ9_floorMod_f86c9 (l : Launch) (D : va_G) (cA : Nat → ClassId) (ro : Nat → Option Nat) (sz : Nat) (H0 : Heap) : zy_M l D cA RTg ro sz H0 (zKn D cA ro sz H0) yJ9_floorMod_f86c9 (gW yJ9_floorMod_f86c9 cJ9_floorMod_f86c9 6 (some .long)) { frames := 0, cells := 0, slots := 0, locals := 0 } kJ9_floorMod_f86c9 :=
  zy_met (zn := "MomentTexts$Zone") (K := KJ9_floorMod_f86c9) (tb := tJ9_floorMod_f86c9) (pts := pJ9_floorMod_f86c9) (rc := 2) (N := 1) (fuel := 4000) (by decide +kernel) rfl rfl (by decide +kernel) rfl rfl (by decide +kernel) eJ9_floorMod_f86c9 qJ9_floorMod_f86c9 (fun p e s m args below meth c Q hx hb hml hown hts hKn => by
    have h2 : ∀ w ∈ gT, w.before args s = true := fun w hw => hts w (List.mem_cons_of_mem _ hw)
    exact ⟨hx, hb, zD_all h2 hKn.1, zArN hKn, (fun _ _ _ _ _ _ _ h => (nomatch h)), (fun _ _ h => (nomatch h)), (fun _ _ h => (nomatch h)), (zgs_n), zct_n⟩)
def tJ9_min_7cf53 : List (Nat × Instr × Nat) := [(0, .iload_n 0, 1), (1, .iload_n 1, 1), (2, .if_icmp .gt 7, 3), (5, .iload_n 0, 1), (6, .goto 4, 3), (9, .iload_n 1, 1), (10, .ireturn, 1)]
set_option maxRecDepth 100000 in
theorem eJ9_min_7cf53 : ∀ x ∈ tJ9_min_7cf53, decode cJ9_min_7cf53 x.1 = .ok x.2 := by decide +kernel
def kJ9_min_7cf53 : zc_C := ([(0, (-2147483648), 2147483647), (0, (-2147483648), 2147483647)], [], [], [], [], [(some (0, (-2147483648), 2147483647), [], [])])
def pJ9_min_7cf53 : List zp_P := []
def KJ9_min_7cf53 : zk_K := (2, RTg, [], [], [], [], [], [], [])
set_option maxRecDepth 100000 in
theorem qJ9_min_7cf53 : zy_ck KJ9_min_7cf53 tJ9_min_7cf53 pJ9_min_7cf53 kJ9_min_7cf53 1 1 4000 = true := by decide +kernel
set_option maxRecDepth 100000 in
theorem mJ9_min_7cf53 (l : Launch) (D : va_G) (cA : Nat → ClassId) (ro : Nat → Option Nat) (sz : Nat) (H0 : Heap) : zy_M l D cA RTg ro sz H0 (zKn D cA ro sz H0) yJ9_min_7cf53 (gW yJ9_min_7cf53 cJ9_min_7cf53 2 (some .int)) { frames := 0, cells := 0, slots := 0, locals := 0 } kJ9_min_7cf53 :=
  zy_met (zn := "MomentTexts$Zone") (K := KJ9_min_7cf53) (tb := tJ9_min_7cf53) (pts := pJ9_min_7cf53) (rc := 1) (N := 1) (fuel := 4000) (by decide +kernel) rfl rfl (by decide +kernel) rfl rfl (by decide +kernel) eJ9_min_7cf53 qJ9_min_7cf53 (fun p e s m args below meth c Q hx hb hml hown hts hKn => by
    have h2 : ∀ w ∈ gT, w.before args s = true := fun w hw => hts w (List.mem_cons_of_mem _ hw)
    exact ⟨hx, hb, zD_all h2 hKn.1, zArN hKn, (fun _ _ _ _ _ _ _ h => (nomatch h)), (fun _ _ h => (nomatch h)), (fun _ _ h => (nomatch h)), (zgs_n), zct_n⟩)
def tJ9_min_f86c9 : List (Nat × Instr × Nat) := [(0, .lload_n 0, 1), (1, .lload_n 2, 1), (2, .lcmp, 1), (3, .ifCond .gt 7, 3), (6, .lload_n 0, 1), (7, .goto 4, 3), (10, .lload_n 2, 1), (11, .lreturn, 1)]
set_option maxRecDepth 100000 in
theorem eJ9_min_f86c9 : ∀ x ∈ tJ9_min_f86c9, decode cJ9_min_f86c9 x.1 = .ok x.2 := by decide +kernel
def kJ9_min_f86c9 : zc_C := ([(1, (-9223372036854775808), 9223372036854775807), (1, (-9223372036854775808), 9223372036854775807)], [], [], [], [], [(some (1, (-9223372036854775808), 9223372036854775807), [], [])])
def pJ9_min_f86c9 : List zp_P := []
def KJ9_min_f86c9 : zk_K := (4, RTg, [], [], [], [], [], [], [])
set_option maxRecDepth 100000 in
theorem qJ9_min_f86c9 : zy_ck KJ9_min_f86c9 tJ9_min_f86c9 pJ9_min_f86c9 kJ9_min_f86c9 2 1 4000 = true := by decide +kernel
set_option maxRecDepth 100000 in
theorem mJ9_min_f86c9 (l : Launch) (D : va_G) (cA : Nat → ClassId) (ro : Nat → Option Nat) (sz : Nat) (H0 : Heap) : zy_M l D cA RTg ro sz H0 (zKn D cA ro sz H0) yJ9_min_f86c9 (gW yJ9_min_f86c9 cJ9_min_f86c9 4 (some .long)) { frames := 0, cells := 0, slots := 0, locals := 0 } kJ9_min_f86c9 :=
  zy_met (zn := "MomentTexts$Zone") (K := KJ9_min_f86c9) (tb := tJ9_min_f86c9) (pts := pJ9_min_f86c9) (rc := 2) (N := 1) (fuel := 4000) (by decide +kernel) rfl rfl (by decide +kernel) rfl rfl (by decide +kernel) eJ9_min_f86c9 qJ9_min_f86c9 (fun p e s m args below meth c Q hx hb hml hown hts hKn => by
    have h2 : ∀ w ∈ gT, w.before args s = true := fun w hw => hts w (List.mem_cons_of_mem _ hw)
    exact ⟨hx, hb, zD_all h2 hKn.1, zArN hKn, (fun _ _ _ _ _ _ _ h => (nomatch h)), (fun _ _ h => (nomatch h)), (fun _ _ h => (nomatch h)), (zgs_n), zct_n⟩)
def tJ9_max_f86c9 : List (Nat × Instr × Nat) := [(0, .lload_n 0, 1), (1, .lload_n 2, 1), (2, .lcmp, 1), (3, .ifCond .lt 7, 3), (6, .lload_n 0, 1), (7, .goto 4, 3), (10, .lload_n 2, 1), (11, .lreturn, 1)]
set_option maxRecDepth 100000 in
theorem eJ9_max_f86c9 : ∀ x ∈ tJ9_max_f86c9, decode cJ9_max_f86c9 x.1 = .ok x.2 := by decide +kernel
def kJ9_max_f86c9 : zc_C := ([(1, (-9223372036854775808), 9223372036854775807), (1, (-9223372036854775808), 9223372036854775807)], [], [], [], [], [(some (1, (-9223372036854775808), 9223372036854775807), [], [])])
def pJ9_max_f86c9 : List zp_P := []
def KJ9_max_f86c9 : zk_K := (4, RTg, [], [], [], [], [], [], [])
set_option maxRecDepth 100000 in
theorem qJ9_max_f86c9 : zy_ck KJ9_max_f86c9 tJ9_max_f86c9 pJ9_max_f86c9 kJ9_max_f86c9 2 1 4000 = true := by decide +kernel
set_option maxRecDepth 100000 in
theorem mJ9_max_f86c9 (l : Launch) (D : va_G) (cA : Nat → ClassId) (ro : Nat → Option Nat) (sz : Nat) (H0 : Heap) : zy_M l D cA RTg ro sz H0 (zKn D cA ro sz H0) yJ9_max_f86c9 (gW yJ9_max_f86c9 cJ9_max_f86c9 4 (some .long)) { frames := 0, cells := 0, slots := 0, locals := 0 } kJ9_max_f86c9 :=
  zy_met (zn := "MomentTexts$Zone") (K := KJ9_max_f86c9) (tb := tJ9_max_f86c9) (pts := pJ9_max_f86c9) (rc := 2) (N := 1) (fuel := 4000) (by decide +kernel) rfl rfl (by decide +kernel) rfl rfl (by decide +kernel) eJ9_max_f86c9 qJ9_max_f86c9 (fun p e s m args below meth c Q hx hb hml hown hts hKn => by
    have h2 : ∀ w ∈ gT, w.before args s = true := fun w hw => hts w (List.mem_cons_of_mem _ hw)
    exact ⟨hx, hb, zD_all h2 hKn.1, zArN hKn, (fun _ _ _ _ _ _ _ h => (nomatch h)), (fun _ _ h => (nomatch h)), (fun _ _ h => (nomatch h)), (zgs_n), zct_n⟩)
def tJ9_abs_0f7a4 : List (Nat × Instr × Nat) := [(0, .iload_n 0, 1), (1, .ifCond .ge 8, 3), (4, .iload_n 0, 1), (5, .ineg, 1), (6, .goto 4, 3), (9, .iload_n 0, 1), (10, .ireturn, 1)]
set_option maxRecDepth 100000 in
theorem eJ9_abs_0f7a4 : ∀ x ∈ tJ9_abs_0f7a4, decode cJ9_abs_0f7a4 x.1 = .ok x.2 := by decide +kernel
def kJ9_abs_0f7a4 : zc_C := ([(0, (-2147483648), 2147483647)], [], [], [], [], [(some (0, (-2147483648), 2147483647), [], [])])
def pJ9_abs_0f7a4 : List zp_P := []
def KJ9_abs_0f7a4 : zk_K := (1, RTg, [], [], [], [], [], [], [])
set_option maxRecDepth 100000 in
theorem qJ9_abs_0f7a4 : zy_ck KJ9_abs_0f7a4 tJ9_abs_0f7a4 pJ9_abs_0f7a4 kJ9_abs_0f7a4 1 1 4000 = true := by decide +kernel
set_option maxRecDepth 100000 in
theorem mJ9_abs_0f7a4 (l : Launch) (D : va_G) (cA : Nat → ClassId) (ro : Nat → Option Nat) (sz : Nat) (H0 : Heap) : zy_M l D cA RTg ro sz H0 (zKn D cA ro sz H0) yJ9_abs_0f7a4 (gW yJ9_abs_0f7a4 cJ9_abs_0f7a4 1 (some .int)) { frames := 0, cells := 0, slots := 0, locals := 0 } kJ9_abs_0f7a4 :=
  zy_met (zn := "MomentTexts$Zone") (K := KJ9_abs_0f7a4) (tb := tJ9_abs_0f7a4) (pts := pJ9_abs_0f7a4) (rc := 1) (N := 1) (fuel := 4000) (by decide +kernel) rfl rfl (by decide +kernel) rfl rfl (by decide +kernel) eJ9_abs_0f7a4 qJ9_abs_0f7a4 (fun p e s m args below meth c Q hx hb hml hown hts hKn => by
    have h2 : ∀ w ∈ gT, w.before args s = true := fun w hw => hts w (List.mem_cons_of_mem _ hw)
    exact ⟨hx, hb, zD_all h2 hKn.1, zArN hKn, (fun _ _ _ _ _ _ _ h => (nomatch h)), (fun _ _ h => (nomatch h)), (fun _ _ h => (nomatch h)), (zgs_n), zct_n⟩)
