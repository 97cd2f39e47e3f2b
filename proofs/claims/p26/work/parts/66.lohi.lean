def kX12_dayOf__lo : zc_C := ([(1, (-999999), (-999999)), (0, 1, 1), (0, 1, 1)], [], [], [], [], [(some (1, (-365961662), (-365961662)), [], [])])
def pX12_dayOf__lo : List zp_P := []
def KX12_dayOf__lo : zk_K := (12, RTg, gfX12, ciX12, clX12, [], [(396, kX12_down__400)], [], [])
set_option maxRecDepth 100000 in
theorem qX12_dayOf__lo : zy_ck KX12_dayOf__lo tX12_dayOf pX12_dayOf__lo kX12_dayOf__lo 2 1 4000 = true := by decide +kernel
set_option maxRecDepth 100000 in
theorem mX12_dayOf__lo (l : Launch) (D : va_G) (cA : Nat → ClassId) (ro : Nat → Option Nat) (sz : Nat) (H0 : Heap) : zy_M l D cA RTg ro sz H0 (zKn D cA ro sz H0) yX12_dayOf (gW yX12_dayOf cX12_dayOf 12 (some .long)) { frames := 1, cells := 0, slots := 0, locals := 25 } kX12_dayOf__lo :=
  zy_met (zn := "MomentTexts$Zone") (K := KX12_dayOf__lo) (tb := tX12_dayOf) (pts := pX12_dayOf__lo) (rc := 2) (N := 1) (fuel := 4000) (by decide +kernel) rfl rfl (by decide +kernel) rfl rfl (by decide +kernel) eX12_dayOf qX12_dayOf__lo (fun p e s m args below meth c Q hx hb hml hown hts hKn => by
    have h2 : ∀ w ∈ gT, w.before args s = true := fun w hw => hts w (List.mem_cons_of_mem _ hw)
    exact ⟨hx, hb, zD_all h2 hKn.1, zArN hKn, zf_clause h2 hown hKn.1 gfX12_ok (by decide +kernel), fun i n h => (by obtain ⟨x, h3, h4⟩ := ciX12_ok i n h; exact ⟨_, x, hown, h2 _ h3, h4⟩), fun i n h => (by obtain ⟨x, h3, h4⟩ := clX12_ok i n h; exact ⟨_, x, hown, h2 _ h3, h4⟩), (zgs_n), 
      zct_c (zr_S (idx := 99) hx hb hml hown hts hKn zKb (mX12_down__400 l D cA ro sz H0) ⟨rfl, rfl⟩ ⟨by decide, by decide⟩ ⟨Nat.zero_le _, Nat.zero_le _⟩ (tb_6 139 rfl rfl) (tb_1 12 rfl rfl) (tb_6 137 rfl rfl) (tb_6 138 rfl rfl) (by decide +kernel) rfl) (zct_n)⟩)
def kX12_dayOf__hi : zc_C := ([(1, 999999, 999999), (0, 12, 12), (0, 31, 31)], [], [], [], [], [(some (1, 364522971, 364522971), [], [])])
def pX12_dayOf__hi : List zp_P := []
def KX12_dayOf__hi : zk_K := (12, RTg, gfX12, ciX12, clX12, [], [(396, kX12_down__400)], [], [])
set_option maxRecDepth 100000 in
theorem qX12_dayOf__hi : zy_ck KX12_dayOf__hi tX12_dayOf pX12_dayOf__hi kX12_dayOf__hi 2 1 4000 = true := by decide +kernel
set_option maxRecDepth 100000 in
theorem mX12_dayOf__hi (l : Launch) (D : va_G) (cA : Nat → ClassId) (ro : Nat → Option Nat) (sz : Nat) (H0 : Heap) : zy_M l D cA RTg ro sz H0 (zKn D cA ro sz H0) yX12_dayOf (gW yX12_dayOf cX12_dayOf 12 (some .long)) { frames := 1, cells := 0, slots := 0, locals := 25 } kX12_dayOf__hi :=
  zy_met (zn := "MomentTexts$Zone") (K := KX12_dayOf__hi) (tb := tX12_dayOf) (pts := pX12_dayOf__hi) (rc := 2) (N := 1) (fuel := 4000) (by decide +kernel) rfl rfl (by decide +kernel) rfl rfl (by decide +kernel) eX12_dayOf qX12_dayOf__hi (fun p e s m args below meth c Q hx hb hml hown hts hKn => by
    have h2 : ∀ w ∈ gT, w.before args s = true := fun w hw => hts w (List.mem_cons_of_mem _ hw)
    exact ⟨hx, hb, zD_all h2 hKn.1, zArN hKn, zf_clause h2 hown hKn.1 gfX12_ok (by decide +kernel), fun i n h => (by obtain ⟨x, h3, h4⟩ := ciX12_ok i n h; exact ⟨_, x, hown, h2 _ h3, h4⟩), fun i n h => (by obtain ⟨x, h3, h4⟩ := clX12_ok i n h; exact ⟨_, x, hown, h2 _ h3, h4⟩), (zgs_n), 
      zct_c (zr_S (idx := 99) hx hb hml hown hts hKn zKb (mX12_down__400 l D cA ro sz H0) ⟨rfl, rfl⟩ ⟨by decide, by decide⟩ ⟨Nat.zero_le _, Nat.zero_le _⟩ (tb_6 139 rfl rfl) (tb_1 12 rfl rfl) (tb_6 137 rfl rfl) (tb_6 138 rfl rfl) (by decide +kernel) rfl) (zct_n)⟩)
