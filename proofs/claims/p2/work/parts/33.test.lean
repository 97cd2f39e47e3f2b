/-! MomentTexts$Leaps: its pool -/
def gfX5 : List (Nat × Nat × Nat) := [(11, 4, 0), (15, 4, 1)]
theorem gfX5_ok : ∀ x ∈ gfX5, zf_w vwCl RTg RX5 x := 
  zgf_c ⟨RX5, TX5, 2, (.array .long), 0, fsX5, (30, 0, 0), rfl, by decide, tb_1 37 rfl rfl, wiX5, by decide +kernel, rfl, rfl, rfl⟩ (
  zgf_c ⟨RX5, TX5, 2, .int, 0, fsX5, (0, 0, 40), rfl, by decide, tb_1 38 rfl rfl, wiX5, by decide +kernel, rfl, rfl, rfl⟩ (fun _ h => nomatch h))
def ciX5 : List (Nat × Int) := []
theorem ciX5_ok : ∀ (i : Nat) (n : Int), (i, n) ∈ ciX5 → ∃ x : Int32, Cond.constant RX5 i x ∈ gT ∧ x.toInt = n := zci_n
def clX5 : List (Nat × Int) := [(19, 86400), (27, (-365961662)), (33, 364522972), (35, 1440), (43, 1439), (49, 60)]
theorem clX5_ok : ∀ (i : Nat) (n : Int), (i, n) ∈ clX5 → ∃ x : Int64, Cond.constantLong RX5 i x ∈ gT ∧ x.toInt = n := 
  zci_c ⟨86400, tb_3 145 rfl rfl, by decide +kernel⟩ (
  zci_c ⟨(-365961662), tb_3 140 rfl rfl, by decide +kernel⟩ (
  zci_c ⟨364522972, tb_3 146 rfl rfl, by decide +kernel⟩ (
  zci_c ⟨1440, tb_3 115 rfl rfl, by decide +kernel⟩ (
  zci_c ⟨1439, tb_3 117 rfl rfl, by decide +kernel⟩ (
  zci_c ⟨60, tb_3 124 rfl rfl, by decide +kernel⟩ (zci_n))))))
def tX5_has : List (Nat × Instr × Nat) := [(0, .iconst 0, 1), (1, .istore_n 3, 1), (2, .iload_n 3, 1), (3, .aload_n 0, 1), (4, .getfield 15, 3), (7, .if_icmp .ge 22, 3), (10, .aload_n 0, 1), (11, .getfield 11, 3), (14, .iload_n 3, 1), (15, .laload, 1), (16, .lload_n 1, 1), (17, .lcmp, 1), (18, .ifCond .ne 5, 3), (21, .iconst 1, 1), (22, .ireturn, 1), (23, .iinc 3 1, 3), (26, .goto (-24), 3), (29, .iconst 0, 1), (30, .ireturn, 1)]
set_option maxRecDepth 100000 in
theorem eX5_has : ∀ x ∈ tX5_has, decode cX5_has x.1 = .ok x.2 := by decide +kernel
def kX5_has : zc_C := ([(12, 0, 0), (1, (-9223372036854775808), 9223372036854775807)], [], [], [], [], [(some (0, 0, 1), [], [])])
def pX5_has : List zp_P := [(2, [(0, (-1)), ((-9223372036854775808), 9223372036854775807), (0, 2147483647), (0, (-1)), ((-9223372036854775808), 9223372036854775807)], [], [(0, 12), (1, 1), (3, 0)], [], [], 2, [([], 18), ([(2, (-1))], 2147483649), ([], 18)])]
def KX5_has : zk_K := (4, RTg, gfX5, ciX5, clX5, [], [], [], [])
set_option maxRecDepth 100000 in
theorem qX5_has : zy_ck KX5_has tX5_has pX5_has kX5_has 1 3 1000 = true := by decide +kernel
set_option maxRecDepth 100000 in
theorem mX5_has (l : Launch) (D : va_G) (cA : Nat → ClassId) (ro : Nat → Option Nat) (sz : Nat) (H0 : Heap) : zy_M l D cA RTg ro sz H0 (zKn D cA) yX5_has (gW yX5_has cX5_has 4 (some .boolean)) { frames := 0, cells := 0, slots := 0, locals := 0 } kX5_has :=
  zy_met (zn := "MomentTexts$Zone") (K := KX5_has) (tb := tX5_has) (pts := pX5_has) (rc := 1) (N := 3) (fuel := 1000) (by decide +kernel) rfl rfl (by decide +kernel) rfl rfl (by decide +kernel) eX5_has qX5_has (fun p e s m args below meth c Q hx hb hml hown hts hKn => by
    have h2 : ∀ w ∈ gT, w.before args s = true := fun w hw => hts w (List.mem_cons_of_mem _ hw)
    exact ⟨hx, hb, zD_all h2 hKn, zAr hKn, zf_clause h2 hown hKn gfX5_ok (by decide +kernel), fun i n h => (by obtain ⟨x, h3, h4⟩ := ciX5_ok i n h; exact ⟨_, x, hown, h2 _ h3, h4⟩), fun i n h => (by obtain ⟨x, h3, h4⟩ := clX5_ok i n h; exact ⟨_, x, hown, h2 _ h3, h4⟩), (fun _ _ h => (nomatch h)), zct_n⟩)
def tX5_secondsTo : List (Nat × Instr × Nat) := [(0, .iconst 0, 1), (1, .istore_n 3, 1), (2, .iconst 0, 1), (3, .istore 4, 2), (5, .iload 4, 2), (7, .aload_n 0, 1), (8, .getfield 15, 3), (11, .if_icmp .ge 66, 3), (14, .aload_n 0, 1), (15, .getfield 11, 3), (18, .iload 4, 2), (20, .laload, 1), (21, .lconst 0, 1), (22, .lcmp, 1), (23, .ifCond .lt 21, 3), (26, .aload_n 0, 1), (27, .getfield 11, 3), (30, .iload 4, 2), (32, .laload, 1), (33, .lload_n 1, 1), (34, .lcmp, 1), (35, .ifCond .ge 9, 3), (38, .iinc 3 1, 3), (41, .goto 30, 3), (44, .aload_n 0, 1), (45, .getfield 11, 3), (48, .iload 4, 2), (50, .laload, 1), (51, .lconst 0, 1), (52, .lcmp, 1), (53, .ifCond .ge 18, 3), (56, .aload_n 0, 1), (57, .getfield 11, 3), (60, .iload 4, 2), (62, .laload, 1), (63, .lload_n 1, 1), (64, .lcmp, 1), (65, .ifCond .lt 6, 3), (68, .iinc 3 (-1), 3), (71, .iinc 4 1, 3), (74, .goto (-69), 3), (77, .iload_n 3, 1), (78, .ireturn, 1)]
set_option maxRecDepth 100000 in
theorem eX5_secondsTo : ∀ x ∈ tX5_secondsTo, decode cX5_secondsTo x.1 = .ok x.2 := by decide +kernel
def kX5_secondsTo : zc_C := ([(12, 0, 0), (1, (-9223372036854775808), 9223372036854775807)], [], [], [], [], [(some (0, (-2147483648), 2147483647), [], [])])
def pX5_secondsTo : List zp_P := [(5, [(0, (-1)), ((-9223372036854775808), 9223372036854775807), ((-2147483648), 2147483647), (0, 2147483647), (0, (-1)), ((-9223372036854775808), 9223372036854775807)], [], [(0, 12), (1, 1), (3, 0), (4, 0)], [], [], 2, [([], 40), ([(3, (-1))], 2147483649), ([], 40)])]
def KX5_secondsTo : zk_K := (5, RTg, gfX5, ciX5, clX5, [], [], [], [])
set_option maxRecDepth 100000 in
theorem qX5_secondsTo : zy_ck KX5_secondsTo tX5_secondsTo pX5_secondsTo kX5_secondsTo 1 3 1000 = true := by decide +kernel
set_option maxRecDepth 100000 in
theorem mX5_secondsTo (l : Launch) (D : va_G) (cA : Nat → ClassId) (ro : Nat → Option Nat) (sz : Nat) (H0 : Heap) : zy_M l D cA RTg ro sz H0 (zKn D cA) yX5_secondsTo (gW yX5_secondsTo cX5_secondsTo 5 (some .int)) { frames := 0, cells := 0, slots := 0, locals := 0 } kX5_secondsTo :=
  zy_met (zn := "MomentTexts$Zone") (K := KX5_secondsTo) (tb := tX5_secondsTo) (pts := pX5_secondsTo) (rc := 1) (N := 3) (fuel := 1000) (by decide +kernel) rfl rfl (by decide +kernel) rfl rfl (by decide +kernel) eX5_secondsTo qX5_secondsTo (fun p e s m args below meth c Q hx hb hml hown hts hKn => by
    have h2 : ∀ w ∈ gT, w.before args s = true := fun w hw => hts w (List.mem_cons_of_mem _ hw)
    exact ⟨hx, hb, zD_all h2 hKn, zAr hKn, zf_clause h2 hown hKn gfX5_ok (by decide +kernel), fun i n h => (by obtain ⟨x, h3, h4⟩ := ciX5_ok i n h; exact ⟨_, x, hown, h2 _ h3, h4⟩), fun i n h => (by obtain ⟨x, h3, h4⟩ := clX5_ok i n h; exact ⟨_, x, hown, h2 _ h3, h4⟩), (fun _ _ h => (nomatch h)), zct_n⟩)
def tX5_isFull : List (Nat × Instr × Nat) := [(0, .aload_n 0, 1), (1, .getfield 15, 3), (4, .bipush 40, 2), (6, .if_icmp .lt 7, 3), (9, .iconst 1, 1), (10, .goto 4, 3), (13, .iconst 0, 1), (14, .ireturn, 1)]
set_option maxRecDepth 100000 in
theorem eX5_isFull : ∀ x ∈ tX5_isFull, decode cX5_isFull x.1 = .ok x.2 := by decide +kernel
def kX5_isFull : zc_C := ([(12, 0, 0)], [], [], [], [], [(some (0, 0, 1), [], [])])
def pX5_isFull : List zp_P := []
def KX5_isFull : zk_K := (1, RTg, gfX5, ciX5, clX5, [], [], [], [])
set_option maxRecDepth 100000 in
theorem qX5_isFull : zy_ck KX5_isFull tX5_isFull pX5_isFull kX5_isFull 1 1 1000 = true := by decide +kernel
set_option maxRecDepth 100000 in
theorem mX5_isFull (l : Launch) (D : va_G) (cA : Nat → ClassId) (ro : Nat → Option Nat) (sz : Nat) (H0 : Heap) : zy_M l D cA RTg ro sz H0 (zKn D cA) yX5_isFull (gW yX5_isFull cX5_isFull 1 (some .boolean)) { frames := 0, cells := 0, slots := 0, locals := 0 } kX5_isFull :=
  zy_met (zn := "MomentTexts$Zone") (K := KX5_isFull) (tb := tX5_isFull) (pts := pX5_isFull) (rc := 1) (N := 1) (fuel := 1000) (by decide +kernel) rfl rfl (by decide +kernel) rfl rfl (by decide +kernel) eX5_isFull qX5_isFull (fun p e s m args below meth c Q hx hb hml hown hts hKn => by
    have h2 : ∀ w ∈ gT, w.before args s = true := fun w hw => hts w (List.mem_cons_of_mem _ hw)
    exact ⟨hx, hb, zD_all h2 hKn, zAr hKn, zf_clause h2 hown hKn gfX5_ok (by decide +kernel), fun i n h => (by obtain ⟨x, h3, h4⟩ := ciX5_ok i n h; exact ⟨_, x, hown, h2 _ h3, h4⟩), fun i n h => (by obtain ⟨x, h3, h4⟩ := clX5_ok i n h; exact ⟨_, x, hown, h2 _ h3, h4⟩), (fun _ _ h => (nomatch h)), zct_n⟩)
def tX5_add : List (Nat × Instr × Nat) := [(0, .aload_n 0, 1), (1, .getfield 15, 3), (4, .bipush 40, 2), (6, .if_icmp .ge 23, 3), (9, .aload_n 0, 1), (10, .getfield 11, 3), (13, .aload_n 0, 1), (14, .getfield 15, 3), (17, .lload_n 1, 1), (18, .lastore, 1), (19, .aload_n 0, 1), (20, .dup, 1), (21, .getfield 15, 3), (24, .iconst 1, 1), (25, .iadd, 1), (26, .putfield 15, 3), (29, .aload_n 0, 1), (30, .getfield 15, 3), (33, .ireturn, 1)]
set_option maxRecDepth 100000 in
theorem eX5_add : ∀ x ∈ tX5_add, decode cX5_add x.1 = .ok x.2 := by decide +kernel
def kX5_add : zc_C := ([(12, 0, 0), (1, (-9223372036854775808), 9223372036854775807)], [], [], [(4, 1)], [], [(some (0, (-2147483648), 2147483647), [], [])])
def pX5_add : List zp_P := []
def KX5_add : zk_K := (3, RTg, gfX5, ciX5, clX5, [], [], [(4, 1)], [])
set_option maxRecDepth 100000 in
theorem qX5_add : zy_ck KX5_add tX5_add pX5_add kX5_add 1 1 1000 = true := by decide +kernel
set_option maxRecDepth 100000 in
theorem mX5_add (l : Launch) (D : va_G) (cA : Nat → ClassId) (ro : Nat → Option Nat) (sz : Nat) (H0 : Heap) : zy_M l D cA RTg ro sz H0 (zKn D cA) yX5_add (gW yX5_add cX5_add 3 (some .int)) { frames := 0, cells := 0, slots := 0, locals := 0 } kX5_add :=
  zy_met (zn := "MomentTexts$Zone") (K := KX5_add) (tb := tX5_add) (pts := pX5_add) (rc := 1) (N := 1) (fuel := 1000) (by decide +kernel) rfl rfl (by decide +kernel) rfl rfl (by decide +kernel) eX5_add qX5_add (fun p e s m args below meth c Q hx hb hml hown hts hKn => by
    have h2 : ∀ w ∈ gT, w.before args s = true := fun w hw => hts w (List.mem_cons_of_mem _ hw)
    exact ⟨hx, hb, zD_all h2 hKn, zAr hKn, zf_clause h2 hown hKn gfX5_ok (by decide +kernel), fun i n h => (by obtain ⟨x, h3, h4⟩ := ciX5_ok i n h; exact ⟨_, x, hown, h2 _ h3, h4⟩), fun i n h => (by obtain ⟨x, h3, h4⟩ := clX5_ok i n h; exact ⟨_, x, hown, h2 _ h3, h4⟩), (fun _ _ h => (nomatch h)), zct_n⟩)
