set_option maxRecDepth 100000 in
set_option maxHeartbeats 4000000 in
theorem hX2_easterOf (l : Launch) (cA : Nat → ClassId) (y : Int32) (hy1 : 0 ≤ y.toInt) (hy2 : y.toInt ≤ 999999) : zu_M l yX2_easterOf (gW yX2_easterOf cX2_easterOf 10 (some .long)) { frames := 2, cells := 0, slots := 0, locals := 46 } (fun vs => vs = [.int y]) (zBM cA) (fun _ w => ∃ r : Int64, w = .long r ∧ esG y.toInt r.toInt) := by
  refine zy_ofW (cc := cX2_easterOf) (maxL := 10) (ret := (some .long)) (by decide +kernel) rfl ?_
  intro p e s m args below meth c s1 B hml hv
  obtain ⟨vs, rfl, rfl, hKp⟩ := hv
  have hx := B.exec
  have hb := B.bytes
  have hr := B.returns
  have hlk := B.notSynchronized
  have hts0 := atoms_spec (ws := gW yX2_easterOf cX2_easterOf 10 (some .long)) B.pre
  have h2 : ∀ w ∈ gT, w.before ([.int y] : List Value).toArray s = true := fun w hw => hts0 w (List.mem_cons_of_mem _ hw)
  have hown : s.vm.findClass RX2 = some m.cls := findClass_of_methodNamed B.named
  have hl := lv_entry [.int y] (n := 10) (Nat.le_of_ble_eq_true rfl)
  rw [lg_entry_eq]
  generalize (lg_sl [.int y] ++ List.replicate (10 - (lg_sl [.int y]).length) Slot.unset).toArray = ls at hl ⊢
  have hBM : ∀ U : State, U.heap = s.heap → s.WarmedH U.vm → zBM cA U := fun U hU hW => zBM_B.2 s U hW hU hKp
  obtain ⟨ab, zb, hz1, hz2, hz3, hz4⟩ := id hKp
  have b_y := zn_i32 y
  refine lv_iload_n hx hb (eX2_easterOf (0, .iload_n 0, 1) (List.mem_of_getElem? (i := 0) rfl)) rfl (lv_at hl 0 rfl) ?_
  refine ff_bipush hx hb (eX2_easterOf (1, .bipush 19, 2) (List.mem_of_getElem? (i := 1) rfl)) (by decide) (by decide) (fun v1 e1 => ?_)
  refine ff_iremP hx hb (eX2_easterOf (3, .irem, 1) (List.mem_of_getElem? (i := 2) rfl)) (by omega) (e1) (by decide) (fun v2 e2 => ?_)
  have hG : v2.toInt = y.toInt % 19 := e2
  refine lv_istore_n hx hb (eX2_easterOf (4, .istore_n 1, 1) (List.mem_of_getElem? (i := 3) rfl)) rfl hl (by decide) rfl (fun ls3 hl3 => ?_)
  refine lv_iload_n hx hb (eX2_easterOf (5, .iload_n 0, 1) (List.mem_of_getElem? (i := 4) rfl)) rfl (lv_at hl3 1 rfl) ?_
  refine ff_bipush hx hb (eX2_easterOf (6, .bipush 100, 2) (List.mem_of_getElem? (i := 5) rfl)) (by decide) (by decide) (fun v4 e4 => ?_)
  refine ff_idivP hx hb (eX2_easterOf (8, .idiv, 1) (List.mem_of_getElem? (i := 6) rfl)) (by omega) (e4) (by decide) (fun v5 e5 => ?_)
  have hC : v5.toInt = y.toInt / 100 := e5
  refine lv_istore_n hx hb (eX2_easterOf (9, .istore_n 2, 1) (List.mem_of_getElem? (i := 7) rfl)) rfl hl3 (by decide) rfl (fun ls6 hl6 => ?_)
  refine lv_iload_n hx hb (eX2_easterOf (10, .iload_n 2, 1) (List.mem_of_getElem? (i := 8) rfl)) rfl (lv_at hl6 0 rfl) ?_
  refine ff_iconst hx hb (eX2_easterOf (11, .iconst 4, 1) (List.mem_of_getElem? (i := 9) rfl)) (by decide) (by decide) (fun v7 e7 => ?_)
  refine ff_idivP hx hb (eX2_easterOf (12, .idiv, 1) (List.mem_of_getElem? (i := 10) rfl)) (by omega) (e7) (by decide) (fun v8 e8 => ?_)
  have hQ : v8.toInt = y.toInt / 100 / 4 := by rw [e8, hC]
  refine lv_istore_n hx hb (eX2_easterOf (13, .istore_n 3, 1) (List.mem_of_getElem? (i := 11) rfl)) rfl hl6 (by decide) rfl (fun ls9 hl9 => ?_)
  refine lv_iload_n hx hb (eX2_easterOf (14, .iload_n 2, 1) (List.mem_of_getElem? (i := 12) rfl)) rfl (lv_at hl9 1 rfl) ?_
  refine lv_iload_n hx hb (eX2_easterOf (15, .iload_n 2, 1) (List.mem_of_getElem? (i := 13) rfl)) rfl (lv_at hl9 1 rfl) ?_
  refine ff_bipush hx hb (eX2_easterOf (16, .bipush 8, 2) (List.mem_of_getElem? (i := 14) rfl)) (by decide) (by decide) (fun v10 e10 => ?_)
  refine ff_iadd hx hb (eX2_easterOf (18, .iadd, 1) (List.mem_of_getElem? (i := 15) rfl)) (by omega) (by omega) (fun v11 e11 => ?_)
  refine ff_bipush hx hb (eX2_easterOf (19, .bipush 25, 2) (List.mem_of_getElem? (i := 16) rfl)) (by decide) (by decide) (fun v12 e12 => ?_)
  refine ff_idivP hx hb (eX2_easterOf (21, .idiv, 1) (List.mem_of_getElem? (i := 17) rfl)) (by omega) (e12) (by decide) (fun v13 e13 => ?_)
  have h25 : v13.toInt = (y.toInt / 100 + 8) / 25 := by rw [e13, show v11.toInt = y.toInt / 100 + 8 by omega]
  refine ff_isub hx hb (eX2_easterOf (22, .isub, 1) (List.mem_of_getElem? (i := 18) rfl)) (by omega) (by omega) (fun v14 e14 => ?_)
  refine ff_iconst hx hb (eX2_easterOf (23, .iconst 1, 1) (List.mem_of_getElem? (i := 19) rfl)) (by decide) (by decide) (fun v15 e15 => ?_)
  refine ff_iadd hx hb (eX2_easterOf (24, .iadd, 1) (List.mem_of_getElem? (i := 20) rfl)) (by omega) (by omega) (fun v16 e16 => ?_)
  refine ff_iconst hx hb (eX2_easterOf (25, .iconst 3, 1) (List.mem_of_getElem? (i := 21) rfl)) (by decide) (by decide) (fun v17 e17 => ?_)
  refine ff_idivP hx hb (eX2_easterOf (26, .idiv, 1) (List.mem_of_getElem? (i := 22) rfl)) (by omega) (e17) (by decide) (fun v18 e18 => ?_)
  have h3 : v18.toInt = (y.toInt / 100 - (y.toInt / 100 + 8) / 25 + 1) / 3 := by rw [e18, show v16.toInt = y.toInt / 100 - (y.toInt / 100 + 8) / 25 + 1 by omega]
  refine lv_istore hx hb (eX2_easterOf (27, .istore 4, 2) (List.mem_of_getElem? (i := 23) rfl)) hl9 (by decide) rfl (fun ls19 hl19 => ?_)
  refine ff_bipush hx hb (eX2_easterOf (29, .bipush 19, 2) (List.mem_of_getElem? (i := 24) rfl)) (by decide) (by decide) (fun v20 e20 => ?_)
  refine lv_iload_n hx hb (eX2_easterOf (31, .iload_n 1, 1) (List.mem_of_getElem? (i := 25) rfl)) rfl (lv_at hl19 3 rfl) ?_
  refine ff_imulL hx hb (eX2_easterOf (32, .imul, 1) (List.mem_of_getElem? (i := 26) rfl)) (e20) (by omega) (by omega) (fun v21 e21 => ?_)
  refine lv_iload_n hx hb (eX2_easterOf (33, .iload_n 2, 1) (List.mem_of_getElem? (i := 27) rfl)) rfl (lv_at hl19 2 rfl) ?_
  refine ff_iadd hx hb (eX2_easterOf (34, .iadd, 1) (List.mem_of_getElem? (i := 28) rfl)) (by omega) (by omega) (fun v22 e22 => ?_)
  refine lv_iload_n hx hb (eX2_easterOf (35, .iload_n 3, 1) (List.mem_of_getElem? (i := 29) rfl)) rfl (lv_at hl19 1 rfl) ?_
  refine ff_isub hx hb (eX2_easterOf (36, .isub, 1) (List.mem_of_getElem? (i := 30) rfl)) (by omega) (by omega) (fun v23 e23 => ?_)
  refine lv_iload hx hb (eX2_easterOf (37, .iload 4, 2) (List.mem_of_getElem? (i := 31) rfl)) (lv_at hl19 0 rfl) ?_
  refine ff_isub hx hb (eX2_easterOf (39, .isub, 1) (List.mem_of_getElem? (i := 32) rfl)) (by omega) (by omega) (fun v24 e24 => ?_)
  refine ff_bipush hx hb (eX2_easterOf (40, .bipush 15, 2) (List.mem_of_getElem? (i := 33) rfl)) (by decide) (by decide) (fun v25 e25 => ?_)
  refine ff_iadd hx hb (eX2_easterOf (42, .iadd, 1) (List.mem_of_getElem? (i := 34) rfl)) (by omega) (by omega) (fun v26 e26 => ?_)
  refine ff_bipush hx hb (eX2_easterOf (43, .bipush 30, 2) (List.mem_of_getElem? (i := 35) rfl)) (by decide) (by decide) (fun v27 e27 => ?_)
  refine ff_iremP hx hb (eX2_easterOf (45, .irem, 1) (List.mem_of_getElem? (i := 36) rfl)) (by omega) (e27) (by decide) (fun v28 e28 => ?_)
  have hH : v28.toInt = esH y.toInt := by unfold esH; rw [e28, show v26.toInt = 19 * (y.toInt % 19) + y.toInt / 100 - y.toInt / 100 / 4 - (y.toInt / 100 - (y.toInt / 100 + 8) / 25 + 1) / 3 + 15 by omega]
  have heb := es_bd y.toInt
  clear hQ h25 h3
  clear e1 e2 e4 e5 e7 e8 e10 e11 e12 e13 e14 e15 e16 e17 e18 e20 e21 e22 e23 e24 e25 e26 e27 e28
  refine lv_istore hx hb (eX2_easterOf (46, .istore 5, 2) (List.mem_of_getElem? (i := 37) rfl)) hl19 (by decide) rfl (fun ls29 hl29 => ?_)
  refine lv_iload_n hx hb (eX2_easterOf (48, .iload_n 0, 1) (List.mem_of_getElem? (i := 38) rfl)) rfl (lv_at hl29 5 rfl) ?_
  refine ff_bipush hx hb (eX2_easterOf (49, .bipush 100, 2) (List.mem_of_getElem? (i := 39) rfl)) (by decide) (by decide) (fun v30 e30 => ?_)
  refine ff_iremP hx hb (eX2_easterOf (51, .irem, 1) (List.mem_of_getElem? (i := 40) rfl)) (by omega) (e30) (by decide) (fun v31 e31 => ?_)
  have hI : v31.toInt = y.toInt % 100 := e31
  refine lv_istore hx hb (eX2_easterOf (52, .istore 6, 2) (List.mem_of_getElem? (i := 41) rfl)) hl29 (by decide) rfl (fun ls32 hl32 => ?_)
  refine ff_bipush hx hb (eX2_easterOf (54, .bipush 32, 2) (List.mem_of_getElem? (i := 42) rfl)) (by decide) (by decide) (fun v33 e33 => ?_)
  refine ff_iconst hx hb (eX2_easterOf (56, .iconst 2, 1) (List.mem_of_getElem? (i := 43) rfl)) (by decide) (by decide) (fun v34 e34 => ?_)
  refine lv_iload_n hx hb (eX2_easterOf (57, .iload_n 2, 1) (List.mem_of_getElem? (i := 44) rfl)) rfl (lv_at hl32 4 rfl) ?_
  refine ff_iconst hx hb (eX2_easterOf (58, .iconst 4, 1) (List.mem_of_getElem? (i := 45) rfl)) (by decide) (by decide) (fun v35 e35 => ?_)
  refine ff_iremP hx hb (eX2_easterOf (59, .irem, 1) (List.mem_of_getElem? (i := 46) rfl)) (by omega) (e35) (by decide) (fun v36 e36 => ?_)
  have h4a : v36.toInt = y.toInt / 100 % 4 := by rw [e36, hC]
  refine ff_imulL hx hb (eX2_easterOf (60, .imul, 1) (List.mem_of_getElem? (i := 47) rfl)) (e34) (by omega) (by omega) (fun v37 e37 => ?_)
  refine ff_iadd hx hb (eX2_easterOf (61, .iadd, 1) (List.mem_of_getElem? (i := 48) rfl)) (by omega) (by omega) (fun v38 e38 => ?_)
  refine ff_iconst hx hb (eX2_easterOf (62, .iconst 2, 1) (List.mem_of_getElem? (i := 49) rfl)) (by decide) (by decide) (fun v39 e39 => ?_)
  refine lv_iload hx hb (eX2_easterOf (63, .iload 6, 2) (List.mem_of_getElem? (i := 50) rfl)) (lv_at hl32 0 rfl) ?_
  refine ff_iconst hx hb (eX2_easterOf (65, .iconst 4, 1) (List.mem_of_getElem? (i := 51) rfl)) (by decide) (by decide) (fun v40 e40 => ?_)
  refine ff_idivP hx hb (eX2_easterOf (66, .idiv, 1) (List.mem_of_getElem? (i := 52) rfl)) (by omega) (e40) (by decide) (fun v41 e41 => ?_)
  have h4b : v41.toInt = y.toInt % 100 / 4 := by rw [e41, hI]
  refine ff_imulL hx hb (eX2_easterOf (67, .imul, 1) (List.mem_of_getElem? (i := 53) rfl)) (e39) (by omega) (by omega) (fun v42 e42 => ?_)
  refine ff_iadd hx hb (eX2_easterOf (68, .iadd, 1) (List.mem_of_getElem? (i := 54) rfl)) (by omega) (by omega) (fun v43 e43 => ?_)
  refine lv_iload hx hb (eX2_easterOf (69, .iload 5, 2) (List.mem_of_getElem? (i := 55) rfl)) (lv_at hl32 1 rfl) ?_
  refine ff_isub hx hb (eX2_easterOf (71, .isub, 1) (List.mem_of_getElem? (i := 56) rfl)) (by omega) (by omega) (fun v44 e44 => ?_)
  refine lv_iload hx hb (eX2_easterOf (72, .iload 6, 2) (List.mem_of_getElem? (i := 57) rfl)) (lv_at hl32 0 rfl) ?_
  refine ff_iconst hx hb (eX2_easterOf (74, .iconst 4, 1) (List.mem_of_getElem? (i := 58) rfl)) (by decide) (by decide) (fun v45 e45 => ?_)
  refine ff_iremP hx hb (eX2_easterOf (75, .irem, 1) (List.mem_of_getElem? (i := 59) rfl)) (by omega) (e45) (by decide) (fun v46 e46 => ?_)
  have h4c : v46.toInt = y.toInt % 100 % 4 := by rw [e46, hI]
  refine ff_isub hx hb (eX2_easterOf (76, .isub, 1) (List.mem_of_getElem? (i := 60) rfl)) (by omega) (by omega) (fun v47 e47 => ?_)
  refine ff_bipush hx hb (eX2_easterOf (77, .bipush 7, 2) (List.mem_of_getElem? (i := 61) rfl)) (by decide) (by decide) (fun v48 e48 => ?_)
  refine ff_iremP hx hb (eX2_easterOf (79, .irem, 1) (List.mem_of_getElem? (i := 62) rfl)) (by omega) (e48) (by decide) (fun v49 e49 => ?_)
  have hS : v49.toInt = esS y.toInt := by unfold esS; rw [e49, show v47.toInt = 32 + 2 * (y.toInt / 100 % 4) + 2 * (y.toInt % 100 / 4) - esH y.toInt - y.toInt % 100 % 4 by omega]
  clear hC hI h4a h4b h4c
  clear e30 e31 e33 e34 e35 e36 e37 e38 e39 e40 e41 e42 e43 e44 e45 e46 e47 e48 e49
  refine lv_istore hx hb (eX2_easterOf (80, .istore 7, 2) (List.mem_of_getElem? (i := 63) rfl)) hl32 (by decide) rfl (fun ls50 hl50 => ?_)
  refine lv_iload_n hx hb (eX2_easterOf (82, .iload_n 1, 1) (List.mem_of_getElem? (i := 64) rfl)) rfl (lv_at hl50 6 rfl) ?_
  refine ff_bipush hx hb (eX2_easterOf (83, .bipush 11, 2) (List.mem_of_getElem? (i := 65) rfl)) (by decide) (by decide) (fun v51 e51 => ?_)
  refine lv_iload hx hb (eX2_easterOf (85, .iload 5, 2) (List.mem_of_getElem? (i := 66) rfl)) (lv_at hl50 2 rfl) ?_
  refine ff_imulL hx hb (eX2_easterOf (87, .imul, 1) (List.mem_of_getElem? (i := 67) rfl)) (e51) (by omega) (by omega) (fun v52 e52 => ?_)
  refine ff_iadd hx hb (eX2_easterOf (88, .iadd, 1) (List.mem_of_getElem? (i := 68) rfl)) (by omega) (by omega) (fun v53 e53 => ?_)
  refine ff_bipush hx hb (eX2_easterOf (89, .bipush 22, 2) (List.mem_of_getElem? (i := 69) rfl)) (by decide) (by decide) (fun v54 e54 => ?_)
  refine lv_iload hx hb (eX2_easterOf (91, .iload 7, 2) (List.mem_of_getElem? (i := 70) rfl)) (lv_at hl50 0 rfl) ?_
  refine ff_imulL hx hb (eX2_easterOf (93, .imul, 1) (List.mem_of_getElem? (i := 71) rfl)) (e54) (by omega) (by omega) (fun v55 e55 => ?_)
  refine ff_iadd hx hb (eX2_easterOf (94, .iadd, 1) (List.mem_of_getElem? (i := 72) rfl)) (by omega) (by omega) (fun v56 e56 => ?_)
  refine ff_sipush hx hb (eX2_easterOf (95, .sipush 451, 3) (List.mem_of_getElem? (i := 73) rfl)) (by decide) (by decide) (fun v57 e57 => ?_)
  refine ff_idivP hx hb (eX2_easterOf (98, .idiv, 1) (List.mem_of_getElem? (i := 74) rfl)) (by omega) (e57) (by decide) (fun v58 e58 => ?_)
  have h451 : v58.toInt = (y.toInt % 19 + 11 * esH y.toInt + 22 * esS y.toInt) / 451 := by rw [e58, show v56.toInt = y.toInt % 19 + 11 * esH y.toInt + 22 * esS y.toInt by omega]
  refine lv_istore hx hb (eX2_easterOf (99, .istore 8, 2) (List.mem_of_getElem? (i := 75) rfl)) hl50 (by decide) rfl (fun ls59 hl59 => ?_)
  refine lv_iload hx hb (eX2_easterOf (101, .iload 5, 2) (List.mem_of_getElem? (i := 76) rfl)) (lv_at hl59 3 rfl) ?_
  refine lv_iload hx hb (eX2_easterOf (103, .iload 7, 2) (List.mem_of_getElem? (i := 77) rfl)) (lv_at hl59 1 rfl) ?_
  refine ff_iadd hx hb (eX2_easterOf (105, .iadd, 1) (List.mem_of_getElem? (i := 78) rfl)) (by omega) (by omega) (fun v60 e60 => ?_)
  refine ff_bipush hx hb (eX2_easterOf (106, .bipush 7, 2) (List.mem_of_getElem? (i := 79) rfl)) (by decide) (by decide) (fun v61 e61 => ?_)
  refine lv_iload hx hb (eX2_easterOf (108, .iload 8, 2) (List.mem_of_getElem? (i := 80) rfl)) (lv_at hl59 0 rfl) ?_
  refine ff_imulL hx hb (eX2_easterOf (110, .imul, 1) (List.mem_of_getElem? (i := 81) rfl)) (e61) (by omega) (by omega) (fun v62 e62 => ?_)
  refine ff_isub hx hb (eX2_easterOf (111, .isub, 1) (List.mem_of_getElem? (i := 82) rfl)) (by omega) (by omega) (fun v63 e63 => ?_)
  refine ff_bipush hx hb (eX2_easterOf (112, .bipush 114, 2) (List.mem_of_getElem? (i := 83) rfl)) (by decide) (by decide) (fun v64 e64 => ?_)
  refine ff_iadd hx hb (eX2_easterOf (114, .iadd, 1) (List.mem_of_getElem? (i := 84) rfl)) (by omega) (by omega) (fun v65 e65 => ?_)
  have hLd : esL y.toInt = esH y.toInt + esS y.toInt - 7 * ((y.toInt % 19 + 11 * esH y.toInt + 22 * esS y.toInt) / 451) := rfl
  rw [← h451] at hLd
  have hL : v65.toInt = esL y.toInt + 114 := by omega
  have hLb := es_lbd y.toInt
  clear hLd h451 hG hH hS heb
  clear e51 e52 e53 e54 e55 e56 e57 e58 e60 e61 e62 e63 e64 e65
  refine lv_istore hx hb (eX2_easterOf (115, .istore 9, 2) (List.mem_of_getElem? (i := 85) rfl)) hl59 (by decide) rfl (fun ls66 hl66 => ?_)
  refine lv_iload_n hx hb (eX2_easterOf (117, .iload_n 0, 1) (List.mem_of_getElem? (i := 86) rfl)) rfl (lv_at hl66 9 rfl) ?_
  refine lv_iload hx hb (eX2_easterOf (118, .iload 9, 2) (List.mem_of_getElem? (i := 87) rfl)) (lv_at hl66 0 rfl) ?_
  refine ff_bipush hx hb (eX2_easterOf (120, .bipush 31, 2) (List.mem_of_getElem? (i := 88) rfl)) (by decide) (by decide) (fun v67 e67 => ?_)
  refine ff_idivP hx hb (eX2_easterOf (122, .idiv, 1) (List.mem_of_getElem? (i := 89) rfl)) (by omega) (e67) (by decide) (fun v68 e68 => ?_)
  refine lv_iload hx hb (eX2_easterOf (123, .iload 9, 2) (List.mem_of_getElem? (i := 90) rfl)) (lv_at hl66 0 rfl) ?_
  refine ff_bipush hx hb (eX2_easterOf (125, .bipush 31, 2) (List.mem_of_getElem? (i := 91) rfl)) (by decide) (by decide) (fun v69 e69 => ?_)
  refine ff_iremP hx hb (eX2_easterOf (127, .irem, 1) (List.mem_of_getElem? (i := 92) rfl)) (by omega) (e69) (by decide) (fun v70 e70 => ?_)
  refine ff_iconst hx hb (eX2_easterOf (128, .iconst 1, 1) (List.mem_of_getElem? (i := 93) rfl)) (by decide) (by decide) (fun v71 e71 => ?_)
  refine ff_iadd hx hb (eX2_easterOf (129, .iadd, 1) (List.mem_of_getElem? (i := 94) rfl)) (by omega) (by omega) (fun v72 e72 => ?_)
  refine zu_S (vs := [.int y, .int v68, .int v72]) (rest := []) hx hb hml hown hts0 zBM_B (hX2_numberOf l cA y v68 v72 (by omega) (by omega) (by omega) (by omega) (by omega) (by omega)) ⟨rfl, rfl⟩ ⟨by decide, by decide⟩ ⟨by decide, by decide⟩ (tb_2 190 rfl rfl) (tb_1 13 rfl rfl) (tb_2 224 rfl rfl) (tb_2 189 rfl rfl) (show yX2_numberOf.cls ≠ "java/lang/invoke/MethodHandle" ∧ yX2_numberOf.cls ≠ "java/lang/invoke/VarHandle" ∧ (parseMethodDescriptor yX2_numberOf.desc).map (fun d => d.parameters.length) = some 3 by decide +kernel) rfl hBM hl66.1 (Nat.le_of_ble_eq_true rfl) (eX2_easterOf (130, .invokestatic 57, 3) (List.mem_of_getElem? (i := 95) rfl)) (fun w73 f73 => ?_)
  obtain ⟨v73, rfl, e73⟩ := f73
  have g73 := (show esG y.toInt v73.toInt by unfold esG; rw [e73, show v68.toInt = (esL y.toInt + 114) / 31 by omega, show v72.toInt = (esL y.toInt + 114) % 31 + 1 by omega])
  exact zu_lret (y := yX2_easterOf) (ws := []) (rm := {}) hx hb hr hlk ⟨_, rfl, by exact g73⟩ (eX2_easterOf (133, .lreturn, 1) (List.mem_of_getElem? (i := 96) rfl))
set_option maxRecDepth 100000 in
set_option maxHeartbeats 4000000 in
theorem hX11_easter (l : Launch) (hst : l.stackTraces = false) (D : va_G) (cA : Nat → ClassId) (ro : Nat → Option Nat) (sz : Nat) (H0 : Heap) (x : Nat) (y : Int32) : vx_Met l yX11_easter (gW yX11_easter cX11_easter 2 (some .long)) { frames := 6, cells := 1, slots := 6, locals := 82 } (zd_PX D cA ro sz H0 [.ref x, .int y]) (zg_QXl (esV y.toInt) (esG y.toInt)) (zg_XX D cA ro sz H0 (esV y.toInt)) 1 6 (zy_fr sz) := by
  refine vx_ofW (cc := cX11_easter) (maxL := 2) (ret := (some .long)) (by decide +kernel) rfl ?_
  intro p e s m args below meth c s1 B hml hex hv
  obtain ⟨rfl, hh, hKx, hKp⟩ := hv
  have hx := B.exec
  have hb := B.bytes
  have hr := B.returns
  have hlk := B.notSynchronized
  have hts0 := atoms_spec (ws := gW yX11_easter cX11_easter 2 (some .long)) B.pre
  have h2 : ∀ w ∈ gT, w.before ([.ref x, .int y] : List Value).toArray s = true := fun w hw => hts0 w (List.mem_cons_of_mem _ hw)
  have hown : s.vm.findClass RX11 = some m.cls := findClass_of_methodNamed B.named
  have hl := lv_entry [.ref x, .int y] (n := 2) (Nat.le_of_ble_eq_true rfl)
  rw [lg_entry_eq]
  generalize (lg_sl [.ref x, .int y] ++ List.replicate (2 - (lg_sl [.ref x, .int y]).length) Slot.unset).toArray = ls at hl ⊢
  have b_y := zn_i32 y
  have hBM : ∀ U : State, U.heap = s.heap → s.WarmedH U.vm → zBM cA U := fun U hU hW => zBM_B.2 s U hW hU hKp
  refine lv_iload_n hx hb (eX11_easter (0, .iload_n 1, 1) (List.mem_of_getElem? (i := 0) rfl)) rfl (lv_at hl 1 rfl) ?_
  refine ff_if_lt hx hb (eX11_easter (1, .ifCond .lt 9, 3) (List.mem_of_getElem? (i := 1) rfl)) (tgt := 10) rfl (fun c1 => ?_) (fun c1 => ?_)
  · skip
    exact zx_leafG (ik := 83) (is := 143) (ic := 87) (cls := "java/lang/IllegalArgumentException") (text := "no year with an Easter") hx hb hst hown h2 hKx hh hh (by rw [hl.1, hml]) hex hlk ⟨by decide, by decide, by decide, by decide⟩ (tb_2 121 rfl rfl) (tb_1 17 rfl rfl) (by decide) (gAt_in gAt_1) (by decide +kernel) (by decide) (by decide) (fun t h7 h8 => ⟨rfl, by unfold esV; omega, hh.grow h7 h8⟩) (eX11_easter (10, .new 83, 3) (List.mem_of_getElem? (i := 5) rfl)) (eX11_easter (13, .dup, 1) (List.mem_of_getElem? (i := 6) rfl)) (eX11_easter (14, .ldc 143, 2) (List.mem_of_getElem? (i := 7) rfl)) (eX11_easter (16, .invokespecial 87, 3) (List.mem_of_getElem? (i := 8) rfl)) (eX11_easter (19, .athrow, 1) (List.mem_of_getElem? (i := 9) rfl))
  · skip
    refine lv_iload_n hx hb (eX11_easter (4, .iload_n 1, 1) (List.mem_of_getElem? (i := 2) rfl)) rfl (lv_at hl 1 rfl) ?_
    refine ff_ldc (n := 999999) hx hb hown h2 (ciX11_ok 142 999999 (List.mem_of_getElem? (i := 0) rfl)) (eX11_easter (5, .ldc 142, 2) (List.mem_of_getElem? (i := 3) rfl)) (fun v2 e2 => ?_)
    refine ff_icmp_le hx hb (eX11_easter (7, .if_icmp .le 13, 3) (List.mem_of_getElem? (i := 4) rfl)) (tgt := 20) rfl (fun c3 => ?_) (fun c3 => ?_)
    · skip
      refine lv_iload_n hx hb (eX11_easter (20, .iload_n 1, 1) (List.mem_of_getElem? (i := 10) rfl)) rfl (lv_at hl 1 rfl) ?_
      refine zu_S (vs := [.int y]) (rest := []) hx hb hml hown hts0 zBM_B (hX2_easterOf l cA y (by omega) (by omega)) ⟨rfl, rfl⟩ ⟨by decide, by decide⟩ ⟨by decide, by decide⟩ (tb_3 61 rfl rfl) (tb_1 13 rfl rfl) (tb_3 59 rfl rfl) (tb_3 60 rfl rfl) (show yX2_easterOf.cls ≠ "java/lang/invoke/MethodHandle" ∧ yX2_easterOf.cls ≠ "java/lang/invoke/VarHandle" ∧ (parseMethodDescriptor yX2_easterOf.desc).map (fun d => d.parameters.length) = some 1 by decide +kernel) rfl hBM hl.1 (Nat.le_of_ble_eq_true rfl) (eX11_easter (21, .invokestatic 145, 3) (List.mem_of_getElem? (i := 11) rfl)) (fun w4 f4 => ?_)
      obtain ⟨v4, rfl, e4⟩ := f4
      exact vx_ret (W.widen (k := 1) (n := 6) (Nat.zero_le _) (Nat.zero_le _) (W.lret hx hb hr (fun t ht hW => ⟨_, rfl, ht, by unfold esV; omega, by exact e4⟩) (fun q hq => by cases hq) (eX11_easter (24, .lreturn, 1) (List.mem_of_getElem? (i := 12) rfl))))
    · skip
      exact zx_leafG (ik := 83) (is := 143) (ic := 87) (cls := "java/lang/IllegalArgumentException") (text := "no year with an Easter") hx hb hst hown h2 hKx hh hh (by rw [hl.1, hml]) hex hlk ⟨by decide, by decide, by decide, by decide⟩ (tb_2 121 rfl rfl) (tb_1 17 rfl rfl) (by decide) (gAt_in gAt_1) (by decide +kernel) (by decide) (by decide) (fun t h7 h8 => ⟨rfl, by unfold esV; omega, hh.grow h7 h8⟩) (eX11_easter (10, .new 83, 3) (List.mem_of_getElem? (i := 5) rfl)) (eX11_easter (13, .dup, 1) (List.mem_of_getElem? (i := 6) rfl)) (eX11_easter (14, .ldc 143, 2) (List.mem_of_getElem? (i := 7) rfl)) (eX11_easter (16, .invokespecial 87, 3) (List.mem_of_getElem? (i := 8) rfl)) (eX11_easter (19, .athrow, 1) (List.mem_of_getElem? (i := 9) rfl))
set_option maxRecDepth 100000 in
set_option maxHeartbeats 4000000 in
theorem wE_easter (l : Launch) (hst : l.stackTraces = false) (D : va_G) (cA : Nat → ClassId) (ro : Nat → Option Nat) (sz : Nat) (H0 : Heap) (x : Nat) (p1 : Int32) (o : Nat) (hx10 : ro x = some 10) (ho : ro o = some 42) : Met l yL_easter (Cond.codeWith yL_easter cL_easter 4 (some .int) [(0, 8, 11, 13)] :: gT) { frames := 7, cells := 1, slots := 6, locals := 103 } (zd_PL D cA ro sz H0 [.ref x, .int p1, .ref o]) (zg_QL D cA ro sz H0 o (esV p1.toInt) (esG p1.toInt)) 1 6 (zy_fr sz) := by
  refine zw_ofW (cc := cL_easter) (maxL := 4) (ret := some .int) (by decide +kernel) rfl ?_
  intro p e s m args below meth c s1 B hml hv
  obtain ⟨rfl, hh, hKa, hBM⟩ := hv
  have hx := B.exec
  have hb := B.bytes
  have hr := B.returns
  have hlk := B.notSynchronized
  have hts0 := atoms_spec (ws := Cond.codeWith yL_easter cL_easter 4 (some .int) [(0, 8, 11, 13)] :: gT) B.pre
  have h2 : ∀ w ∈ gT, w.before ([.ref x, .int p1, .ref o] : List Value).toArray s = true := fun w hw => hts0 w (List.mem_cons_of_mem _ hw)
  have hown : s.vm.findClass RL = some m.cls := findClass_of_methodNamed B.named
  have hl := lv_entry [.ref x, .int p1, .ref o] (n := 4) (Nat.le_of_ble_eq_true rfl)
  rw [lg_entry_eq]
  generalize (lg_sl [.ref x, .int p1, .ref o] ++ List.replicate (4 - (lg_sl [.ref x, .int p1, .ref o]).length) Slot.unset).toArray = ls at hl ⊢
  refine lv_aload_n hx hb (eL_easter (0, .aload_n 2, 1) (List.mem_of_getElem? (i := 0) rfl)) rfl (lv_at hl 2 rfl) ?_
  refine ff_iconst hx hb (eL_easter (1, .iconst 0, 1) (List.mem_of_getElem? (i := 1) rfl)) (by decide) (by decide) (fun v1 e1 => ?_)
  refine lv_aload_n hx hb (eL_easter (2, .aload_n 0, 1) (List.mem_of_getElem? (i := 2) rfl)) rfl (lv_at hl 0 rfl) ?_
  refine lv_iload_n hx hb (eL_easter (3, .iload_n 1, 1) (List.mem_of_getElem? (i := 3) rfl)) rfl (lv_at hl 1 rfl) ?_
  refine zx_rowG (As := [.int p1]) (st := [.int v1, .ref o]) (b := x) (C := RX11) hx hb hml hown hts0 (hX11_easter l hst D cA ro sz H0 x p1) ⟨rfl, rfl⟩ ⟨by decide, by decide⟩ ⟨by decide, by decide⟩ (tb_3 56 rfl rfl) (tb_1 1 rfl rfl) (tb_3 53 rfl rfl) (tb_3 54 rfl rfl) (tb_3 55 rfl rfl) rfl (show yX11_easter.cls ≠ "java/lang/invoke/MethodHandle" ∧ yX11_easter.cls ≠ "java/lang/invoke/VarHandle" ∧ (parseMethodDescriptor yX11_easter.desc).map (fun d => d.parameters.length) = some 1 by decide +kernel) zd_blindX (zw_ob hh hKa.1.1.1 hx10) (fun U hU hW => ⟨rfl, by rw [hU]; exact hh, hKa.1.warm hW, zBM_B.2 s U hW hU hBM⟩) (fun q hq => by cases hq) hl.1 (Nat.le_of_ble_eq_true rfl) (eL_easter (4, .invokevirtual 26, 3) (List.mem_of_getElem? (i := 4) rfl)) (fun v s0 t lo1 g0 g1 g2 => ?_) (fun q s0 t lo1 E ce g0 g1 g3 g4 g5 g2 => ?_)
  · obtain ⟨r9, q1, q2, q3, q4⟩ := g1
    cases q1
    have hh1 : zh_ok D cA RTg ro sz H0 t.heap lo1 := by rw [q2, g0]; exact ⟨hh.1, hh.2.1, g2, hh.2.2.2⟩
    refine W.eq (g2 := F0 m 7 ls [.long r9, .int v1, .ref o]) rfl ?_
    refine zw_out hx hb hh1 hKa.1.1.1 ho (by omega) (eL_easter (7, .lastore, 1) (List.mem_of_getElem? (i := 5) rfl)) (fun H9 lo9 hh9 _ _ hz9 => ?_)
    obtain ⟨z9, hz9, hz8⟩ := hz9
    refine lv_goto hx hb (eL_easter (8, .goto 6, 3) (List.mem_of_getElem? (i := 6) rfl)) (tgt := 14) rfl ?_
    refine ff_iconst hx hb (eL_easter (14, .iconst 0, 1) (List.mem_of_getElem? (i := 10) rfl)) (by decide) (by decide) (fun v2 e2 => ?_)
    exact W.zret hx hb hr rfl (fun t ht hW => ⟨_, rfl, by rw [ht]; exact hh9.l0, Or.inl ⟨by omega, q3, z9, r9, by rw [ht]; exact hz9, hz8, q4⟩⟩) hh9.2.2.1 (eL_easter (15, .ireturn, 1) (List.mem_of_getElem? (i := 11) rfl))
  · obtain ⟨rfl, q3, q4⟩ := g1
    have hh1 : zh_ok D cA RTg ro sz H0 t.heap lo1 := ⟨q4.1, q4.2.1, g2, q4.2.2.2⟩
    refine vx_catch (own := RL) (name := "java/lang/IllegalArgumentException") hown [] ⟨0, 8, 11, 13⟩ [] (vx_table (x := yL_easter) B (h2 _ (tb_3 52 rfl rfl))) (fun z hz => by cases hz) rfl (by decide) (h2 _ (tb_2 103 rfl rfl)) (va_Nw.use rfl (hKa.1.2.2.2.2.1 (eI, eI) (List.mem_of_getElem? (i := 0) rfl))) g3 g4 g5 ?_
    refine lv_astore_n hx hb (eL_easter (11, .astore_n 3, 1) (List.mem_of_getElem? (i := 7) rfl)) rfl hl (by decide) rfl (fun ls3 hl3 => ?_)
    refine ff_iconst hx hb (eL_easter (12, .iconst 1, 1) (List.mem_of_getElem? (i := 8) rfl)) (by decide) (by decide) (fun v4 e4 => ?_)
    exact W.zret hx hb hr rfl (fun t ht hW => ⟨_, rfl, by rw [ht]; exact hh1.l0, Or.inr ⟨by omega, q3⟩⟩) hh1.2.2.1 (eL_easter (13, .ireturn, 1) (List.mem_of_getElem? (i := 9) rfl))
set_option maxRecDepth 100000 in
set_option maxHeartbeats 4000000 in
theorem hX12_easter (l : Launch) (D : va_G) (cA : Nat → ClassId) (ro : Nat → Option Nat) (sz : Nat) (H0 : Heap) (a : Nat) (y : Int32) (ha : ro a = some 11)  : Met l yX12_easter (gW yX12_easter cX12_easter 9 (some .long)) { frames := 2, cells := 0, slots := 0, locals := 56 } (zd_Pc D cA ro sz H0 [.ref a, .int y]) (zg_Ql D cA ro sz H0 a (esV y.toInt) (esG y.toInt)) 0 0 (zy_fr sz) := by
  refine zy_ofW (cc := cX12_easter) (maxL := 9) (ret := (some .long)) (by decide +kernel) rfl ?_
  intro p e s m args below meth c s1 B hml hv
  obtain ⟨rfl, hh, hKn⟩ := hv
  have hx := B.exec
  have hb := B.bytes
  have hr := B.returns
  have hlk := B.notSynchronized
  have hts0 := atoms_spec (ws := gW yX12_easter cX12_easter 9 (some .long)) B.pre
  have h2 : ∀ w ∈ gT, w.before ([.ref a, .int y] : List Value).toArray s = true := fun w hw => hts0 w (List.mem_cons_of_mem _ hw)
  have hown : s.vm.findClass RX12 = some m.cls := findClass_of_methodNamed B.named
  have hl := lv_entry [.ref a, .int y] (n := 9) (Nat.le_of_ble_eq_true rfl)
  rw [lg_entry_eq]
  generalize (lg_sl [.ref a, .int y] ++ List.replicate (9 - (lg_sl [.ref a, .int y]).length) Slot.unset).toArray = ls at hl ⊢
  have b_y := zn_i32 y
  have hD := zD_all h2 hKn.1
  have hcl := fun (idx k : Nat) (t : zt_T) (h : (idx, 11, k) ∈ gfX12) (hk : fsX12[k]? = some t) => zf_clause (ro := ro) (ms := [(11, 0), (11, 18), (11, 19), (11, 20)]) h2 hown hKn.1 gfX12_ok (by decide +kernel) idx 11 k 11 0 fsX12 t h rfl hk
  have kp0 : zc_kept D RTg ro [(11, 0), (11, 18), (11, 19), (11, 20)] s.heap s.heap := zc_kept.refl
  have hq0 : ∀ q : Nat, q ≠ a → s.heap[q]? = s.heap[q]? := fun _ _ => rfl
  refine lv_aload_n hx hb (eX12_easter (0, .aload_n 0, 1) (List.mem_of_getElem? (i := 0) rfl)) rfl (lv_at hl 0 rfl) ?_
  refine lv_iload_n hx hb (eX12_easter (1, .iload_n 1, 1) (List.mem_of_getElem? (i := 1) rfl)) rfl (lv_at hl 1 rfl) ?_
  refine ff_i2l hx hb (eX12_easter (2, .i2l, 1) (List.mem_of_getElem? (i := 2) rfl)) (fun v1 e1 => ?_)
  refine ff_lconst hx hb (eX12_easter (3, .lconst 0, 1) (List.mem_of_getElem? (i := 3) rfl)) rfl (fun v2 e2 => ?_)
  refine ff_ldc2 (n := 999999) hx hb hown h2 (clX12_ok 78 999999 (List.mem_of_getElem? (i := 1) rfl)) (eX12_easter (4, .ldc2_w 78, 3) (List.mem_of_getElem? (i := 4) rfl)) (fun v3 e3 => ?_)
  refine zu_S (vs := [.long v1, .long v2, .long v3]) (rest := [.ref a]) hx hb hml hown hts0 zu_BT (hX12_isIn l v1 v2 v3) ⟨rfl, rfl⟩ ⟨by decide, by decide⟩ ⟨by decide, by decide⟩ (tb_7 47 rfl rfl) (tb_1 12 rfl rfl) (tb_7 45 rfl rfl) (tb_7 46 rfl rfl) (show yX12_isIn.cls ≠ "java/lang/invoke/MethodHandle" ∧ yX12_isIn.cls ≠ "java/lang/invoke/VarHandle" ∧ (parseMethodDescriptor yX12_isIn.desc).map (fun d => d.parameters.length) = some 3 by decide +kernel) rfl (fun _ _ _ => trivial) hl.1 (Nat.le_of_ble_eq_true rfl) (eX12_easter (7, .invokestatic 130, 3) (List.mem_of_getElem? (i := 5) rfl)) (fun w4 f4 => ?_)
  obtain ⟨v4, rfl, e4⟩ := f4
  refine ff_if_eq hx hb (eX12_easter (10, .ifCond .eq 7, 3) (List.mem_of_getElem? (i := 6) rfl)) (tgt := 17) rfl (fun c5 => ?_) (fun c5 => ?_)
  · skip
    refine ff_iconst hx hb (eX12_easter (17, .iconst 1, 1) (List.mem_of_getElem? (i := 9) rfl)) (by decide) (by decide) (fun v6 e6 => ?_)
    refine tz_put (r := 11) (k := 0) (t := (0, 0, 2)) hx hb hD hh ha rfl rfl ((hcl 85 0 (0, 0, 2) (by decide) rfl).2 (by decide)) (tz_i (by omega) (by omega)) (eX12_easter (18, .putfield 85, 3) (List.mem_of_getElem? (i := 10) rfl)) (fun H7 lo7 hh7 hf7 hk7 _ hq7 => ?_)
    have kp7 := kp0.trans (hk7.mono (ms' := [(11, 0), (11, 18), (11, 19), (11, 20)]) (fun x hx => by cases List.mem_singleton.mp hx; decide))
    have hqq7 := fun (q : Nat) (g : q ≠ a) => (hq7 q g).trans (hq0 q g)
    refine lv_aload_n hx hb (eX12_easter (21, .aload_n 0, 1) (List.mem_of_getElem? (i := 11) rfl)) rfl (lv_at hl 0 rfl) ?_
    refine tz_get (r := 11) (k := 0) (t := (0, 0, 2)) hx hb hh7 ha rfl rfl (hcl 85 0 (0, 0, 2) (by decide) rfl).1 hf7 (eX12_easter (22, .getfield 85, 3) (List.mem_of_getElem? (i := 12) rfl)) ?_
    refine ff_if_le hx hb (eX12_easter (25, .ifCond .le 5, 3) (List.mem_of_getElem? (i := 13) rfl)) (tgt := 30) rfl (fun c8 => (by exfalso; omega)) (fun c8 => ?_)
    refine ff_lconst hx hb (eX12_easter (28, .lconst 0, 1) (List.mem_of_getElem? (i := 14) rfl)) rfl (fun v9 e9 => ?_)
    exact W.lret hx hb hr (fun t ht hW => ⟨_, _, rfl, by rw [ht]; exact hh7.l0, fun q hq => by rw [ht]; exact hqq7 q hq, by rw [ht]; exact hf7, Or.inr ⟨by omega, by unfold esV; omega⟩⟩) hh7.2.2.1 (eX12_easter (29, .lreturn, 1) (List.mem_of_getElem? (i := 15) rfl))
  · skip
    refine ff_iconst hx hb (eX12_easter (13, .iconst 0, 1) (List.mem_of_getElem? (i := 7) rfl)) (by decide) (by decide) (fun v10 e10 => ?_)
    refine lv_goto hx hb (eX12_easter (14, .goto 4, 3) (List.mem_of_getElem? (i := 8) rfl)) (tgt := 18) rfl ?_
    refine tz_put (r := 11) (k := 0) (t := (0, 0, 2)) hx hb hD hh ha rfl rfl ((hcl 85 0 (0, 0, 2) (by decide) rfl).2 (by decide)) (tz_i (by omega) (by omega)) (eX12_easter (18, .putfield 85, 3) (List.mem_of_getElem? (i := 10) rfl)) (fun H11 lo11 hh11 hf11 hk11 _ hq11 => ?_)
    have kp11 := kp0.trans (hk11.mono (ms' := [(11, 0), (11, 18), (11, 19), (11, 20)]) (fun x hx => by cases List.mem_singleton.mp hx; decide))
    have hqq11 := fun (q : Nat) (g : q ≠ a) => (hq11 q g).trans (hq0 q g)
    refine lv_aload_n hx hb (eX12_easter (21, .aload_n 0, 1) (List.mem_of_getElem? (i := 11) rfl)) rfl (lv_at hl 0 rfl) ?_
    refine tz_get (r := 11) (k := 0) (t := (0, 0, 2)) hx hb hh11 ha rfl rfl (hcl 85 0 (0, 0, 2) (by decide) rfl).1 hf11 (eX12_easter (22, .getfield 85, 3) (List.mem_of_getElem? (i := 12) rfl)) ?_
    refine ff_if_le hx hb (eX12_easter (25, .ifCond .le 5, 3) (List.mem_of_getElem? (i := 13) rfl)) (tgt := 30) rfl (fun c12 => ?_) (fun c12 => (by exfalso; omega))
    have hy1 : 0 ≤ y.toInt := by omega
    have hy2 : y.toInt ≤ 999999 := by omega
    have hthr : v10.toInt = 0 := by omega
    refine lv_iload_n hx hb (eX12_easter (30, .iload_n 1, 1) (List.mem_of_getElem? (i := 16) rfl)) rfl (lv_at hl 1 rfl) ?_
    refine ff_bipush hx hb (eX12_easter (31, .bipush 19, 2) (List.mem_of_getElem? (i := 17) rfl)) (by decide) (by decide) (fun v13 e13 => ?_)
    refine ff_iremP hx hb (eX12_easter (33, .irem, 1) (List.mem_of_getElem? (i := 18) rfl)) (by omega) (e13) (by decide) (fun v14 e14 => ?_)
    have hG : v14.toInt = y.toInt % 19 := e14
    refine lv_istore_n hx hb (eX12_easter (34, .istore_n 2, 1) (List.mem_of_getElem? (i := 19) rfl)) rfl hl (by decide) rfl (fun ls15 hl15 => ?_)
    refine lv_iload_n hx hb (eX12_easter (35, .iload_n 1, 1) (List.mem_of_getElem? (i := 20) rfl)) rfl (lv_at hl15 2 rfl) ?_
    refine ff_bipush hx hb (eX12_easter (36, .bipush 100, 2) (List.mem_of_getElem? (i := 21) rfl)) (by decide) (by decide) (fun v16 e16 => ?_)
    refine ff_idivP hx hb (eX12_easter (38, .idiv, 1) (List.mem_of_getElem? (i := 22) rfl)) (by omega) (e16) (by decide) (fun v17 e17 => ?_)
    have hC : v17.toInt = y.toInt / 100 := e17
    refine lv_istore_n hx hb (eX12_easter (39, .istore_n 3, 1) (List.mem_of_getElem? (i := 23) rfl)) rfl hl15 (by decide) rfl (fun ls18 hl18 => ?_)
    refine lv_iload_n hx hb (eX12_easter (40, .iload_n 3, 1) (List.mem_of_getElem? (i := 24) rfl)) rfl (lv_at hl18 0 rfl) ?_
    refine lv_iload_n hx hb (eX12_easter (41, .iload_n 3, 1) (List.mem_of_getElem? (i := 25) rfl)) rfl (lv_at hl18 0 rfl) ?_
    refine ff_iconst hx hb (eX12_easter (42, .iconst 4, 1) (List.mem_of_getElem? (i := 26) rfl)) (by decide) (by decide) (fun v19 e19 => ?_)
    refine ff_idivP hx hb (eX12_easter (43, .idiv, 1) (List.mem_of_getElem? (i := 27) rfl)) (by omega) (e19) (by decide) (fun v20 e20 => ?_)
    have hQ : v20.toInt = y.toInt / 100 / 4 := by rw [e20, hC]
    refine ff_isub hx hb (eX12_easter (44, .isub, 1) (List.mem_of_getElem? (i := 28) rfl)) (by omega) (by omega) (fun v21 e21 => ?_)
    refine ff_bipush hx hb (eX12_easter (45, .bipush 8, 2) (List.mem_of_getElem? (i := 29) rfl)) (by decide) (by decide) (fun v22 e22 => ?_)
    refine lv_iload_n hx hb (eX12_easter (47, .iload_n 3, 1) (List.mem_of_getElem? (i := 30) rfl)) rfl (lv_at hl18 0 rfl) ?_
    refine ff_imulL hx hb (eX12_easter (48, .imul, 1) (List.mem_of_getElem? (i := 31) rfl)) (e22) (by omega) (by omega) (fun v23 e23 => ?_)
    refine ff_bipush hx hb (eX12_easter (49, .bipush 13, 2) (List.mem_of_getElem? (i := 32) rfl)) (by decide) (by decide) (fun v24 e24 => ?_)
    refine ff_iadd hx hb (eX12_easter (51, .iadd, 1) (List.mem_of_getElem? (i := 33) rfl)) (by omega) (by omega) (fun v25 e25 => ?_)
    refine ff_bipush hx hb (eX12_easter (52, .bipush 25, 2) (List.mem_of_getElem? (i := 34) rfl)) (by decide) (by decide) (fun v26 e26 => ?_)
    refine ff_idivP hx hb (eX12_easter (54, .idiv, 1) (List.mem_of_getElem? (i := 35) rfl)) (by omega) (e26) (by decide) (fun v27 e27 => ?_)
    have h25 : v27.toInt = (8 * (y.toInt / 100) + 13) / 25 := by rw [e27, show v25.toInt = 8 * (y.toInt / 100) + 13 by omega]
    refine ff_isub hx hb (eX12_easter (55, .isub, 1) (List.mem_of_getElem? (i := 36) rfl)) (by omega) (by omega) (fun v28 e28 => ?_)
    refine ff_bipush hx hb (eX12_easter (56, .bipush 19, 2) (List.mem_of_getElem? (i := 37) rfl)) (by decide) (by decide) (fun v29 e29 => ?_)
    refine lv_iload_n hx hb (eX12_easter (58, .iload_n 2, 1) (List.mem_of_getElem? (i := 38) rfl)) rfl (lv_at hl18 1 rfl) ?_
    refine ff_imulL hx hb (eX12_easter (59, .imul, 1) (List.mem_of_getElem? (i := 39) rfl)) (e29) (by omega) (by omega) (fun v30 e30 => ?_)
    refine ff_iadd hx hb (eX12_easter (60, .iadd, 1) (List.mem_of_getElem? (i := 40) rfl)) (by omega) (by omega) (fun v31 e31 => ?_)
    refine ff_bipush hx hb (eX12_easter (61, .bipush 15, 2) (List.mem_of_getElem? (i := 41) rfl)) (by decide) (by decide) (fun v32 e32 => ?_)
    refine ff_iadd hx hb (eX12_easter (63, .iadd, 1) (List.mem_of_getElem? (i := 42) rfl)) (by omega) (by omega) (fun v33 e33 => ?_)
    refine ff_bipush hx hb (eX12_easter (64, .bipush 30, 2) (List.mem_of_getElem? (i := 43) rfl)) (by decide) (by decide) (fun v34 e34 => ?_)
    refine ff_iremP hx hb (eX12_easter (66, .irem, 1) (List.mem_of_getElem? (i := 44) rfl)) (by omega) (e34) (by decide) (fun v35 e35 => ?_)
    have hH : v35.toInt = esH y.toInt := by rw [e35, show v33.toInt = y.toInt / 100 - y.toInt / 100 / 4 - (8 * (y.toInt / 100) + 13) / 25 + 19 * (y.toInt % 19) + 15 by omega, es_h y.toInt hy1]
    have heb := es_bd y.toInt
    clear hQ h25
    clear e13 e14 e16 e17 e19 e20 e21 e22 e23 e24 e25 e26 e27 e28 e29 e30 e31 e32 e33 e34 e35
    refine lv_istore hx hb (eX12_easter (67, .istore 4, 2) (List.mem_of_getElem? (i := 45) rfl)) hl18 (by decide) rfl (fun ls36 hl36 => ?_)
    refine lv_iload hx hb (eX12_easter (69, .iload 4, 2) (List.mem_of_getElem? (i := 46) rfl)) (lv_at hl36 0 rfl) ?_
    refine lv_iload hx hb (eX12_easter (71, .iload 4, 2) (List.mem_of_getElem? (i := 47) rfl)) (lv_at hl36 0 rfl) ?_
    refine ff_bipush hx hb (eX12_easter (73, .bipush 28, 2) (List.mem_of_getElem? (i := 48) rfl)) (by decide) (by decide) (fun v37 e37 => ?_)
    refine ff_idivP hx hb (eX12_easter (75, .idiv, 1) (List.mem_of_getElem? (i := 49) rfl)) (by omega) (e37) (by decide) (fun v38 e38 => ?_)
    refine ff_iconst hx hb (eX12_easter (76, .iconst 1, 1) (List.mem_of_getElem? (i := 50) rfl)) (by decide) (by decide) (fun v39 e39 => ?_)
    refine ff_bipush hx hb (eX12_easter (77, .bipush 29, 2) (List.mem_of_getElem? (i := 51) rfl)) (by decide) (by decide) (fun v40 e40 => ?_)
    refine lv_iload hx hb (eX12_easter (79, .iload 4, 2) (List.mem_of_getElem? (i := 52) rfl)) (lv_at hl36 0 rfl) ?_
    refine ff_iconst hx hb (eX12_easter (81, .iconst 1, 1) (List.mem_of_getElem? (i := 53) rfl)) (by decide) (by decide) (fun v41 e41 => ?_)
    refine ff_iadd hx hb (eX12_easter (82, .iadd, 1) (List.mem_of_getElem? (i := 54) rfl)) (by omega) (by omega) (fun v42 e42 => ?_)
    refine ff_idivV hx hb (eX12_easter (83, .idiv, 1) (List.mem_of_getElem? (i := 55) rfl)) (by omega) (by omega) (fun v43 e43 => ?_)
    have z43 : (v35.toInt = 28 → v43.toInt = 1) ∧ (v35.toInt = 29 → v43.toInt = 0) := ⟨fun q => by rw [e43.1, show v40.toInt = 29 by omega, show v42.toInt = 29 by omega]; rfl, fun q => by rw [e43.1, show v40.toInt = 29 by omega, show v42.toInt = 30 by omega]; rfl⟩
    replace e43 := e43.2
    refine ff_bipush hx hb (eX12_easter (84, .bipush 21, 2) (List.mem_of_getElem? (i := 56) rfl)) (by decide) (by decide) (fun v44 e44 => ?_)
    refine lv_iload_n hx hb (eX12_easter (86, .iload_n 2, 1) (List.mem_of_getElem? (i := 57) rfl)) rfl (lv_at hl36 2 rfl) ?_
    refine ff_isub hx hb (eX12_easter (87, .isub, 1) (List.mem_of_getElem? (i := 58) rfl)) (by omega) (by omega) (fun v45 e45 => ?_)
    refine ff_bipush hx hb (eX12_easter (88, .bipush 11, 2) (List.mem_of_getElem? (i := 59) rfl)) (by decide) (by decide) (fun v46 e46 => ?_)
    refine ff_idivP hx hb (eX12_easter (90, .idiv, 1) (List.mem_of_getElem? (i := 60) rfl)) (by omega) (e46) (by decide) (fun v47 e47 => ?_)
    refine ff_imul01R hx hb (eX12_easter (91, .imul, 1) (List.mem_of_getElem? (i := 61) rfl)) (by omega) (by omega) (fun v48 e48 => ?_)
    refine ff_isub hx hb (eX12_easter (92, .isub, 1) (List.mem_of_getElem? (i := 62) rfl)) (by omega) (by omega) (fun v49 e49 => ?_)
    refine ff_imul01L hx hb (eX12_easter (93, .imul, 1) (List.mem_of_getElem? (i := 63) rfl)) (by omega) (by omega) (fun v50 e50 => ?_)
    refine ff_isub hx hb (eX12_easter (94, .isub, 1) (List.mem_of_getElem? (i := 64) rfl)) (by omega) (by omega) (fun v51 e51 => ?_)
    have hI : ((esH y.toInt = 29 ∨ (esH y.toInt = 28 ∧ 11 ≤ y.toInt % 19)) ∧ v51.toInt = esH y.toInt - 1) ∨ (¬ (esH y.toInt = 29 ∨ (esH y.toInt = 28 ∧ 11 ≤ y.toInt % 19)) ∧ v51.toInt = esH y.toInt) := by omega
    have bI : 0 ≤ v51.toInt ∧ v51.toInt ≤ 29 := by omega
    clear z43
    clear e37 e38 e39 e40 e41 e42 e43 e44 e45 e46 e47 e48 e49 e50 e51
    have hl9 := es_l (y := y.toInt) (i := v51.toInt) hy1 hI
    have hLb := es_lbd y.toInt
    clear hI hH hG heb
    refine lv_istore hx hb (eX12_easter (95, .istore 5, 2) (List.mem_of_getElem? (i := 65) rfl)) hl36 (by decide) rfl (fun ls52 hl52 => ?_)
    refine lv_iload_n hx hb (eX12_easter (97, .iload_n 1, 1) (List.mem_of_getElem? (i := 66) rfl)) rfl (lv_at hl52 5 rfl) ?_
    refine lv_iload_n hx hb (eX12_easter (98, .iload_n 1, 1) (List.mem_of_getElem? (i := 67) rfl)) rfl (lv_at hl52 5 rfl) ?_
    refine ff_iconst hx hb (eX12_easter (99, .iconst 4, 1) (List.mem_of_getElem? (i := 68) rfl)) (by decide) (by decide) (fun v53 e53 => ?_)
    refine ff_idivP hx hb (eX12_easter (100, .idiv, 1) (List.mem_of_getElem? (i := 69) rfl)) (by omega) (e53) (by decide) (fun v54 e54 => ?_)
    have h4 : v54.toInt = y.toInt / 4 := e54
    refine ff_iadd hx hb (eX12_easter (101, .iadd, 1) (List.mem_of_getElem? (i := 70) rfl)) (by omega) (by omega) (fun v55 e55 => ?_)
    refine lv_iload hx hb (eX12_easter (102, .iload 5, 2) (List.mem_of_getElem? (i := 71) rfl)) (lv_at hl52 0 rfl) ?_
    refine ff_iadd hx hb (eX12_easter (104, .iadd, 1) (List.mem_of_getElem? (i := 72) rfl)) (by omega) (by omega) (fun v56 e56 => ?_)
    refine ff_iconst hx hb (eX12_easter (105, .iconst 2, 1) (List.mem_of_getElem? (i := 73) rfl)) (by decide) (by decide) (fun v57 e57 => ?_)
    refine ff_iadd hx hb (eX12_easter (106, .iadd, 1) (List.mem_of_getElem? (i := 74) rfl)) (by omega) (by omega) (fun v58 e58 => ?_)
    refine lv_iload_n hx hb (eX12_easter (107, .iload_n 3, 1) (List.mem_of_getElem? (i := 75) rfl)) rfl (lv_at hl52 2 rfl) ?_
    refine ff_isub hx hb (eX12_easter (108, .isub, 1) (List.mem_of_getElem? (i := 76) rfl)) (by omega) (by omega) (fun v59 e59 => ?_)
    refine lv_iload_n hx hb (eX12_easter (109, .iload_n 3, 1) (List.mem_of_getElem? (i := 77) rfl)) rfl (lv_at hl52 2 rfl) ?_
    refine ff_iconst hx hb (eX12_easter (110, .iconst 4, 1) (List.mem_of_getElem? (i := 78) rfl)) (by decide) (by decide) (fun v60 e60 => ?_)
    refine ff_idivP hx hb (eX12_easter (111, .idiv, 1) (List.mem_of_getElem? (i := 79) rfl)) (by omega) (e60) (by decide) (fun v61 e61 => ?_)
    have hQ : v61.toInt = y.toInt / 100 / 4 := by rw [e61, hC]
    refine ff_iadd hx hb (eX12_easter (112, .iadd, 1) (List.mem_of_getElem? (i := 80) rfl)) (by omega) (by omega) (fun v62 e62 => ?_)
    refine ff_bipush hx hb (eX12_easter (113, .bipush 7, 2) (List.mem_of_getElem? (i := 81) rfl)) (by decide) (by decide) (fun v63 e63 => ?_)
    refine ff_iremP hx hb (eX12_easter (115, .irem, 1) (List.mem_of_getElem? (i := 82) rfl)) (by omega) (e63) (by decide) (fun v64 e64 => ?_)
    have hj : v64.toInt = (y.toInt + y.toInt / 4 + v51.toInt + 2 - y.toInt / 100 + y.toInt / 100 / 4) % 7 := by rw [e64, show v62.toInt = y.toInt + y.toInt / 4 + v51.toInt + 2 - y.toInt / 100 + y.toInt / 100 / 4 by omega]
    rw [← hj] at hl9
    have hj0 : 0 ≤ v64.toInt ∧ v64.toInt ≤ 6 := by rw [hj]; omega
    clear hj hQ h4 hC
    clear e53 e54 e55 e56 e57 e58 e59 e60 e61 e62 e63 e64
    refine lv_istore hx hb (eX12_easter (116, .istore 6, 2) (List.mem_of_getElem? (i := 83) rfl)) hl52 (by decide) rfl (fun ls65 hl65 => ?_)
    refine lv_iload hx hb (eX12_easter (118, .iload 5, 2) (List.mem_of_getElem? (i := 84) rfl)) (lv_at hl65 1 rfl) ?_
    refine lv_iload hx hb (eX12_easter (120, .iload 6, 2) (List.mem_of_getElem? (i := 85) rfl)) (lv_at hl65 0 rfl) ?_
    refine ff_isub hx hb (eX12_easter (122, .isub, 1) (List.mem_of_getElem? (i := 86) rfl)) (by omega) (by omega) (fun v66 e66 => ?_)
    have hL : v66.toInt = esL y.toInt - 6 := by omega
    clear e66
    clear hl9 bI hj0
    refine lv_istore hx hb (eX12_easter (123, .istore 7, 2) (List.mem_of_getElem? (i := 87) rfl)) hl65 (by decide) rfl (fun ls67 hl67 => ?_)
    refine ff_iconst hx hb (eX12_easter (125, .iconst 3, 1) (List.mem_of_getElem? (i := 88) rfl)) (by decide) (by decide) (fun v68 e68 => ?_)
    refine lv_iload hx hb (eX12_easter (126, .iload 7, 2) (List.mem_of_getElem? (i := 89) rfl)) (lv_at hl67 0 rfl) ?_
    refine ff_bipush hx hb (eX12_easter (128, .bipush 40, 2) (List.mem_of_getElem? (i := 90) rfl)) (by decide) (by decide) (fun v69 e69 => ?_)
    refine ff_iadd hx hb (eX12_easter (130, .iadd, 1) (List.mem_of_getElem? (i := 91) rfl)) (by omega) (by omega) (fun v70 e70 => ?_)
    refine ff_bipush hx hb (eX12_easter (131, .bipush 44, 2) (List.mem_of_getElem? (i := 92) rfl)) (by decide) (by decide) (fun v71 e71 => ?_)
    refine ff_idivP hx hb (eX12_easter (133, .idiv, 1) (List.mem_of_getElem? (i := 93) rfl)) (by omega) (e71) (by decide) (fun v72 e72 => ?_)
    refine ff_iadd hx hb (eX12_easter (134, .iadd, 1) (List.mem_of_getElem? (i := 94) rfl)) (by omega) (by omega) (fun v73 e73 => ?_)
    refine lv_istore hx hb (eX12_easter (135, .istore 8, 2) (List.mem_of_getElem? (i := 95) rfl)) hl67 (by decide) rfl (fun ls74 hl74 => ?_)
    refine lv_iload_n hx hb (eX12_easter (137, .iload_n 1, 1) (List.mem_of_getElem? (i := 96) rfl)) rfl (lv_at hl74 8 rfl) ?_
    refine ff_i2l hx hb (eX12_easter (138, .i2l, 1) (List.mem_of_getElem? (i := 97) rfl)) (fun v75 e75 => ?_)
    refine lv_iload hx hb (eX12_easter (139, .iload 8, 2) (List.mem_of_getElem? (i := 98) rfl)) (lv_at hl74 0 rfl) ?_
    refine lv_iload hx hb (eX12_easter (141, .iload 7, 2) (List.mem_of_getElem? (i := 99) rfl)) (lv_at hl74 1 rfl) ?_
    refine ff_bipush hx hb (eX12_easter (143, .bipush 28, 2) (List.mem_of_getElem? (i := 100) rfl)) (by decide) (by decide) (fun v76 e76 => ?_)
    refine ff_iadd hx hb (eX12_easter (145, .iadd, 1) (List.mem_of_getElem? (i := 101) rfl)) (by omega) (by omega) (fun v77 e77 => ?_)
    refine ff_bipush hx hb (eX12_easter (146, .bipush 31, 2) (List.mem_of_getElem? (i := 102) rfl)) (by decide) (by decide) (fun v78 e78 => ?_)
    refine lv_iload hx hb (eX12_easter (148, .iload 8, 2) (List.mem_of_getElem? (i := 103) rfl)) (lv_at hl74 0 rfl) ?_
    refine ff_iconst hx hb (eX12_easter (150, .iconst 4, 1) (List.mem_of_getElem? (i := 104) rfl)) (by decide) (by decide) (fun v79 e79 => ?_)
    refine ff_idivP hx hb (eX12_easter (151, .idiv, 1) (List.mem_of_getElem? (i := 105) rfl)) (by omega) (e79) (by decide) (fun v80 e80 => ?_)
    refine ff_imulL hx hb (eX12_easter (152, .imul, 1) (List.mem_of_getElem? (i := 106) rfl)) (e78) (by omega) (by omega) (fun v81 e81 => ?_)
    refine ff_isub hx hb (eX12_easter (153, .isub, 1) (List.mem_of_getElem? (i := 107) rfl)) (by omega) (by omega) (fun v82 e82 => ?_)
    refine zu_S (vs := [.long v75, .int v73, .int v82]) (rest := []) hx hb hml hown hts0 zu_BT (hX12_dayOf l v75 v73 v82 (by omega) (by omega) (by omega) (by omega) (by omega) (by omega)) ⟨rfl, rfl⟩ ⟨by decide, by decide⟩ ⟨by decide, by decide⟩ (tb_6 135 rfl rfl) (tb_1 12 rfl rfl) (tb_6 133 rfl rfl) (tb_6 134 rfl rfl) (show yX12_dayOf.cls ≠ "java/lang/invoke/MethodHandle" ∧ yX12_dayOf.cls ≠ "java/lang/invoke/VarHandle" ∧ (parseMethodDescriptor yX12_dayOf.desc).map (fun d => d.parameters.length) = some 3 by decide +kernel) rfl (fun _ _ _ => trivial) hl74.1 (Nat.le_of_ble_eq_true rfl) (eX12_easter (154, .invokestatic 70, 3) (List.mem_of_getElem? (i := 108) rfl)) (fun w83 f83 => ?_)
    obtain ⟨v83, rfl, e83⟩ := f83
    have g83 := (show esG y.toInt v83.toInt by unfold esG; rw [e83, show v75.toInt = y.toInt by omega, show v73.toInt = (esL y.toInt + 114) / 31 by omega, show v82.toInt = (esL y.toInt + 114) % 31 + 1 by omega])
    exact W.lret hx hb hr (fun t ht hW => ⟨_, _, rfl, by rw [ht]; exact hh11.l0, fun q hq => by rw [ht]; exact hqq11 q hq, by rw [ht]; exact hf11, Or.inl ⟨by omega, by unfold esV; omega, g83⟩⟩) hh11.2.2.1 (eX12_easter (157, .lreturn, 1) (List.mem_of_getElem? (i := 109) rfl))
