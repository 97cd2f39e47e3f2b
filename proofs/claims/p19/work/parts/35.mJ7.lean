def tJ7_fill_d0a16 : List (Nat × Instr × Nat) := [(0, .iconst 0, 1), (1, .istore_n 3, 1), (2, .aload_n 0, 1), (3, .arraylength, 1), (4, .istore 4, 2), (6, .iload_n 3, 1), (7, .iload 4, 2), (9, .if_icmp .ge 13, 3), (12, .aload_n 0, 1), (13, .iload_n 3, 1), (14, .lload_n 1, 1), (15, .lastore, 1), (16, .iinc 3 1, 3), (19, .goto (-13), 3), (22, .return_, 1)]
set_option maxRecDepth 100000 in
theorem eJ7_fill_d0a16 : ∀ x ∈ tJ7_fill_d0a16, decode cJ7_fill_d0a16 x.1 = .ok x.2 := by decide +kernel
def kJ7_fill_d0a16 : zc_C := ([(38, 0, 0), (1, (-9223372036854775808), 9223372036854775807)], [], [], [(17, 0)], [], [(none, [], [])])
def pJ7_fill_d0a16 : List zp_P := [(6, [(0, (-1)), ((-9223372036854775808), 9223372036854775807), (0, 39), (39, 39), (0, (-1)), ((-9223372036854775808), 9223372036854775807)], [], [(0, 38), (1, 1), (3, 0), (4, 0)], [], [], 2, [([], 11), ([(2, (-1))], 2147483649), ([], 11)])]
def KJ7_fill_d0a16 : zk_K := (5, RTg, [], [], [], [], [], [(17, 0)], [])
set_option maxRecDepth 100000 in
theorem qJ7_fill_d0a16 : zy_ck KJ7_fill_d0a16 tJ7_fill_d0a16 pJ7_fill_d0a16 kJ7_fill_d0a16 4 3 4000 = true := by decide +kernel
set_option maxRecDepth 100000 in
theorem mJ7_fill_d0a16 (l : Launch) (D : va_G) (cA : Nat → ClassId) (ro : Nat → Option Nat) (sz : Nat) (H0 : Heap) : zy_M l D cA RTg ro sz H0 (zKn D cA ro sz H0) yJ7_fill_d0a16 (gW yJ7_fill_d0a16 cJ7_fill_d0a16 5 none) { frames := 0, cells := 0, slots := 0, locals := 0 } kJ7_fill_d0a16 :=
  zy_met (zn := "MomentTexts$Zone") (K := KJ7_fill_d0a16) (tb := tJ7_fill_d0a16) (pts := pJ7_fill_d0a16) (rc := 4) (N := 3) (fuel := 4000) (by decide +kernel) rfl rfl (by decide +kernel) rfl rfl (by decide +kernel) eJ7_fill_d0a16 qJ7_fill_d0a16 (fun p e s m args below meth c Q hx hb hml hown hts hKn => by
    have h2 : ∀ w ∈ gT, w.before args s = true := fun w hw => hts w (List.mem_cons_of_mem _ hw)
    exact ⟨hx, hb, zD_all h2 hKn.1, zArN hKn, (fun _ _ _ _ _ _ _ h => (nomatch h)), (fun _ _ h => (nomatch h)), (fun _ _ h => (nomatch h)), (zgs_n), zct_n⟩)
