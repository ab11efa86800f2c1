set_option maxHeartbeats 4000000 in
set_option maxRecDepth 100000 in
theorem law_restart {p : Program} {l : Launch} {e : Env} {s : State} {m : MethodId} {below : List Frame} {meth : Method} {c : Code} {H : Heap} {locs : List Loc} {Q : State → Prop} {D : va_G} {cA : ClassId} {q q2 : Nat → Nat} {N S b L i : Nat} {xs : Nat → Int32} {ls : Array Slot} {z : CS} {r : RS} (hC : LC p s m c D cA N S b L xs) (hi : i + 4 ≤ L) (hl : lv_has ls 4 [(3, .int (nI i)), (2, .ref (q2 0)), (1, .ref (q 0)), (0, .ref b)]) (hP : va_P D vwCl (wB cA q q2 N S z r) H) (hD : va_D (lwA s) (wB cA q q2 N S z r)) (hS : va_S (lwA s) s.heap H locs) (hR : RR N S z r)
    (K : ∀ (z1 : CS) (r1 : RS) (H1 : Heap) (locs1 : List Loc), va_P D vwCl (wB cA q q2 N S z1 r1) H1 → va_S (lwA s) s.heap H1 locs1 → RR N S z1 r1 → W p l e room_1 s m #[Value.ref b] below meth c H1 locs1 13 419 Q (F0 m 588 ls [])) : W p l e room_1 s m #[Value.ref b] below meth c H locs 13 419 Q (F0 m 417 ls []) := by
  obtain ⟨hx, hb, hml, hown, hts, hK, hTb, hX, hbl, hL, g1, g2, g3, g4⟩ := hC
  refine lv_aload_n hx hb d_Z_law_417 rfl (lv_at hl 2 rfl) ?_
  refine kA_i (va_runV (C := R_A) (As := []) (rest := []) ⟨hx, hb, hml, hown, hts⟩ (c_DualParityArray_restart l D cA q N S z g1 g2 g3 g4 (RR_c hR)) (k_cwV 0 hts m_code_A_restart m_ini_A m_l_Z_69 m_inst_A_restart m_sel_A_restart h_A_restart rfl rfl ⟨Nat.le_of_ble_eq_true rfl, Nat.le_of_ble_eq_true rfl⟩) (pAW hP hK hD) rfl rfl hl.1 rfl (lv_room (Nat.le_of_ble_eq_true rfl)) d_Z_law_418 ⟨rm_c, rm_s⟩) hP hS hD (fun H locs hP hD hS => ?_)
  refine lv_aload_n hx hb d_Z_law_421 rfl (lv_at hl 1 rfl) ?_
  refine kM_i (va_runV (C := R_M) (As := []) (rest := [.int ((cRs N S z).1)]) ⟨hx, hb, hml, hown, hts⟩ (c_Model_restart l D cA q2 N S r g1 g2 g3 g4 (RR_m hR)) (k_cwV 0 hts m_code_M_restart m_ini_M m_l_Z_72 m_inst_M_restart m_sel_M_restart h_M_restart rfl rfl ⟨Nat.le_of_ble_eq_true rfl, Nat.le_of_ble_eq_true rfl⟩) (pMW hP hK hD) rfl rfl hl.1 rfl (lv_room (Nat.le_of_ble_eq_true rfl)) d_Z_law_422 ⟨rm_c, rm_s⟩) hP hS hD (fun H locs hP hD hS => ?_)
  refine lv_icmp_eq (tgt := 588) hx hb d_Z_law_425 rfl (fun g => ?_) (fun g => ?_)
  · exact K _ _ H locs hP hS (rs_eq g1 g2 g4 hR).2
  · exact absurd ((rs_eq g1 g2 g4 hR).1) g
set_option maxHeartbeats 4000000 in
set_option maxRecDepth 100000 in
theorem law_faults {p : Program} {l : Launch} {e : Env} {s : State} {m : MethodId} {below : List Frame} {meth : Method} {c : Code} {H : Heap} {locs : List Loc} {Q : State → Prop} {D : va_G} {cA : ClassId} {q q2 : Nat → Nat} {N S b L i : Nat} {xs : Nat → Int32} {ls : Array Slot} {z : CS} {r : RS} (hC : LC p s m c D cA N S b L xs) (hi : i + 4 ≤ L) (hl : lv_has ls 4 [(3, .int (nI i)), (2, .ref (q2 0)), (1, .ref (q 0)), (0, .ref b)]) (hP : va_P D vwCl (wB cA q q2 N S z r) H) (hD : va_D (lwA s) (wB cA q q2 N S z r)) (hS : va_S (lwA s) s.heap H locs) (hR : RR N S z r)
    (K : ∀ (z1 : CS) (r1 : RS) (H1 : Heap) (locs1 : List Loc), va_P D vwCl (wB cA q q2 N S z1 r1) H1 → va_S (lwA s) s.heap H1 locs1 → RR N S z1 r1 → W p l e room_1 s m #[Value.ref b] below meth c H1 locs1 13 419 Q (F0 m 588 ls [])) : W p l e room_1 s m #[Value.ref b] below meth c H locs 13 419 Q (F0 m 430 ls []) := by
  obtain ⟨hx, hb, hml, hown, hts, hK, hTb, hX, hbl, hL, g1, g2, g3, g4⟩ := hC
  refine lv_aload_n hx hb d_Z_law_430 rfl (lv_at hl 2 rfl) ?_
  refine kA_i (va_runV (C := R_A) (As := []) (rest := []) ⟨hx, hb, hml, hown, hts⟩ (c_DualParityArray_faults l D cA q N S z g1 g2 g3 g4) (k_cwV 0 hts m_code_A_faults m_ini_A m_l_Z_73 m_inst_A_faults m_sel_A_faults h_A_faults rfl rfl ⟨Nat.le_of_ble_eq_true rfl, Nat.le_of_ble_eq_true rfl⟩) (pAT hP hK hD hTb hS) rfl rfl hl.1 rfl (lv_room (Nat.le_of_ble_eq_true rfl)) d_Z_law_431 ⟨rm_c, rm_s⟩) hP hS hD (fun H locs hP hD hS => ?_)
  refine lv_aload_n hx hb d_Z_law_434 rfl (lv_at hl 1 rfl) ?_
  refine kM_i (va_runV (C := R_M) (As := []) (rest := [.int ((cFa N S z).1)]) ⟨hx, hb, hml, hown, hts⟩ (c_Model_faults l D cA q2 N S r g1 g2 g3 g4) (k_cwV 0 hts m_code_M_faults m_ini_M m_l_Z_76 m_inst_M_faults m_sel_M_faults h_M_faults rfl rfl ⟨Nat.le_of_ble_eq_true rfl, Nat.le_of_ble_eq_true rfl⟩) (pMW hP hK hD) rfl rfl hl.1 rfl (lv_room (Nat.le_of_ble_eq_true rfl)) d_Z_law_435 ⟨rm_c, rm_s⟩) hP hS hD (fun H locs hP hD hS => ?_)
  refine lv_icmp_eq (tgt := 588) hx hb d_Z_law_438 rfl (fun g => ?_) (fun g => ?_)
  · exact K _ _ H locs hP hS (fa_eq g1 g2 g4 hR).2
  · exact absurd ((fa_eq g1 g2 g4 hR).1) g
set_option maxHeartbeats 4000000 in
set_option maxRecDepth 100000 in
theorem law_peek {p : Program} {l : Launch} {e : Env} {s : State} {m : MethodId} {below : List Frame} {meth : Method} {c : Code} {H : Heap} {locs : List Loc} {Q : State → Prop} {D : va_G} {cA : ClassId} {q q2 : Nat → Nat} {N S b L i : Nat} {xs : Nat → Int32} {ls : Array Slot} {z : CS} {r : RS} (hC : LC p s m c D cA N S b L xs) (hi : i + 4 ≤ L) (hl : lv_has ls 4 [(3, .int (nI i)), (2, .ref (q2 0)), (1, .ref (q 0)), (0, .ref b)]) (hP : va_P D vwCl (wB cA q q2 N S z r) H) (hD : va_D (lwA s) (wB cA q q2 N S z r)) (hS : va_S (lwA s) s.heap H locs) (hR : RR N S z r)
    (K : ∀ (z1 : CS) (r1 : RS) (H1 : Heap) (locs1 : List Loc), va_P D vwCl (wB cA q q2 N S z1 r1) H1 → va_S (lwA s) s.heap H1 locs1 → RR N S z1 r1 → W p l e room_1 s m #[Value.ref b] below meth c H1 locs1 13 419 Q (F0 m 588 ls [])) : W p l e room_1 s m #[Value.ref b] below meth c H locs 13 419 Q (F0 m 443 ls []) := by
  obtain ⟨hx, hb, hml, hown, hts, hK, hTb, hX, hbl, hL, g1, g2, g3, g4⟩ := hC
  refine lv_aload_n hx hb d_Z_law_443 rfl (lv_at hl 2 rfl) ?_
  refine lv_aload_n hx hb d_Z_law_444 rfl (lv_at hl 3 rfl) ?_
  refine lv_iload_n hx hb d_Z_law_445 rfl (lv_at hl 0 rfl) ?_
  refine lv_iconst (v := 1) hx hb d_Z_law_446 (by decide) ?_
  refine lv_iadd hx hb d_Z_law_447 ?_
  refine k_top (nI (i + 1)) (nI_add i 1) ?_
  refine va_sld hx hb hX hbl (Nat.not_le.mpr hbl) hS (vp_in_nI (by omega) (by omega)) d_Z_law_448 ?_
  refine k_top (xs (i + 1)) (by rw [show (nI (i + 1)).toNatClampNeg = i + 1 from nI_clamp (by omega)]) ?_
  refine lv_aload_n hx hb d_Z_law_449 rfl (lv_at hl 3 rfl) ?_
  refine lv_iload_n hx hb d_Z_law_450 rfl (lv_at hl 0 rfl) ?_
  refine lv_iconst (v := 2) hx hb d_Z_law_451 (by decide) ?_
  refine lv_iadd hx hb d_Z_law_452 ?_
  refine k_top (nI (i + 2)) (nI_add i 2) ?_
  refine va_sld hx hb hX hbl (Nat.not_le.mpr hbl) hS (vp_in_nI (by omega) (by omega)) d_Z_law_453 ?_
  refine k_top (xs (i + 2)) (by rw [show (nI (i + 2)).toNatClampNeg = i + 2 from nI_clamp (by omega)]) ?_
  refine k_rol (va_runV (C := R_A) (As := [.int (xs (i + 1)), .int (xs (i + 2))]) (rest := []) ⟨hx, hb, hml, hown, hts⟩ (c_DualParityArray_peek l D cA q N S z g1 g2 g3 g4 (xs (i + 1)) (xs (i + 2))) (k_cwV 2 hts m_code_A_peek m_ini_A m_l_Z_77 m_inst_A_peek m_sel_A_peek h_A_peek rfl rfl ⟨Nat.le_of_ble_eq_true rfl, Nat.le_of_ble_eq_true rfl⟩) (pAR hP hK) rfl rfl hl.1 rfl (lv_room (Nat.le_of_ble_eq_true rfl)) d_Z_law_454 ⟨rm_c, rm_s⟩) ?_
  refine lv_aload_n hx hb d_Z_law_457 rfl (lv_at hl 1 rfl) ?_
  refine lv_aload_n hx hb d_Z_law_458 rfl (lv_at hl 3 rfl) ?_
  refine lv_iload_n hx hb d_Z_law_459 rfl (lv_at hl 0 rfl) ?_
  refine lv_iconst (v := 1) hx hb d_Z_law_460 (by decide) ?_
  refine lv_iadd hx hb d_Z_law_461 ?_
  refine k_top (nI (i + 1)) (nI_add i 1) ?_
  refine va_sld hx hb hX hbl (Nat.not_le.mpr hbl) hS (vp_in_nI (by omega) (by omega)) d_Z_law_462 ?_
  refine k_top (xs (i + 1)) (by rw [show (nI (i + 1)).toNatClampNeg = i + 1 from nI_clamp (by omega)]) ?_
  refine lv_aload_n hx hb d_Z_law_463 rfl (lv_at hl 3 rfl) ?_
  refine lv_iload_n hx hb d_Z_law_464 rfl (lv_at hl 0 rfl) ?_
  refine lv_iconst (v := 2) hx hb d_Z_law_465 (by decide) ?_
  refine lv_iadd hx hb d_Z_law_466 ?_
  refine k_top (nI (i + 2)) (nI_add i 2) ?_
  refine va_sld hx hb hX hbl (Nat.not_le.mpr hbl) hS (vp_in_nI (by omega) (by omega)) d_Z_law_467 ?_
  refine k_top (xs (i + 2)) (by rw [show (nI (i + 2)).toNatClampNeg = i + 2 from nI_clamp (by omega)]) ?_
  refine k_rol (va_runV (C := R_M) (As := [.int (xs (i + 1)), .int (xs (i + 2))]) (rest := [.long ((cPk N S (xs (i + 1)) (xs (i + 2)) z))]) ⟨hx, hb, hml, hown, hts⟩ (c_Model_peek l D cA q2 N S r g1 g2 g3 g4 (xs (i + 1)) (xs (i + 2))) (k_cwV 2 hts m_code_M_peek m_ini_M m_l_Z_81 m_inst_M_peek m_sel_M_peek h_M_peek rfl rfl ⟨Nat.le_of_ble_eq_true rfl, Nat.le_of_ble_eq_true rfl⟩) (pMR hP hK) rfl rfl hl.1 rfl (lv_room (Nat.le_of_ble_eq_true rfl)) d_Z_law_468 ⟨rm_c, rm_s⟩) ?_
  refine k_topl ((cPk N S (xs (i + 1)) (xs (i + 2)) z)) (pk_eq2 g2 g4 hR).symm ?_
  refine W.lcmp hx hb d_Z_law_471 ?_
  refine k_top 0 (lg_cmp_self _) ?_
  refine lv_if_eq (tgt := 588) hx hb d_Z_law_472 rfl (fun g => ?_) (fun g => ?_)
  · exact K z r H locs hP hS hR
  · exact absurd rfl g
set_option maxHeartbeats 4000000 in
set_option maxRecDepth 100000 in
theorem law_locate {p : Program} {l : Launch} {e : Env} {s : State} {m : MethodId} {below : List Frame} {meth : Method} {c : Code} {H : Heap} {locs : List Loc} {Q : State → Prop} {D : va_G} {cA : ClassId} {q q2 : Nat → Nat} {N S b L i : Nat} {xs : Nat → Int32} {ls : Array Slot} {z : CS} {r : RS} (hC : LC p s m c D cA N S b L xs) (hi : i + 4 ≤ L) (hl : lv_has ls 4 [(3, .int (nI i)), (2, .ref (q2 0)), (1, .ref (q 0)), (0, .ref b)]) (hP : va_P D vwCl (wB cA q q2 N S z r) H) (hD : va_D (lwA s) (wB cA q q2 N S z r)) (hS : va_S (lwA s) s.heap H locs) (hR : RR N S z r)
    (K : ∀ (z1 : CS) (r1 : RS) (H1 : Heap) (locs1 : List Loc), va_P D vwCl (wB cA q q2 N S z1 r1) H1 → va_S (lwA s) s.heap H1 locs1 → RR N S z1 r1 → W p l e room_1 s m #[Value.ref b] below meth c H1 locs1 13 419 Q (F0 m 588 ls [])) : W p l e room_1 s m #[Value.ref b] below meth c H locs 13 419 Q (F0 m 477 ls []) := by
  obtain ⟨hx, hb, hml, hown, hts, hK, hTb, hX, hbl, hL, g1, g2, g3, g4⟩ := hC
  refine lv_aload_n hx hb d_Z_law_477 rfl (lv_at hl 2 rfl) ?_
  refine lv_aload_n hx hb d_Z_law_478 rfl (lv_at hl 3 rfl) ?_
  refine lv_iload_n hx hb d_Z_law_479 rfl (lv_at hl 0 rfl) ?_
  refine lv_iconst (v := 1) hx hb d_Z_law_480 (by decide) ?_
  refine lv_iadd hx hb d_Z_law_481 ?_
  refine k_top (nI (i + 1)) (nI_add i 1) ?_
  refine va_sld hx hb hX hbl (Nat.not_le.mpr hbl) hS (vp_in_nI (by omega) (by omega)) d_Z_law_482 ?_
  refine k_top (xs (i + 1)) (by rw [show (nI (i + 1)).toNatClampNeg = i + 1 from nI_clamp (by omega)]) ?_
  refine k_roi (va_runV (C := R_A) (As := [.int (xs (i + 1))]) (rest := []) ⟨hx, hb, hml, hown, hts⟩ (c_DualParityArray_locate l D cA q N S z g1 g2 g3 g4 (xs (i + 1))) (k_cwV 1 hts m_code_A_locate m_ini_A m_l_Z_82 m_inst_A_locate m_sel_A_locate h_A_locate rfl rfl ⟨Nat.le_of_ble_eq_true rfl, Nat.le_of_ble_eq_true rfl⟩) (pAR hP hK) rfl rfl hl.1 rfl (lv_room (Nat.le_of_ble_eq_true rfl)) d_Z_law_483 ⟨rm_c, rm_s⟩) ?_
  refine lv_aload_n hx hb d_Z_law_486 rfl (lv_at hl 1 rfl) ?_
  refine lv_aload_n hx hb d_Z_law_487 rfl (lv_at hl 3 rfl) ?_
  refine lv_iload_n hx hb d_Z_law_488 rfl (lv_at hl 0 rfl) ?_
  refine lv_iconst (v := 1) hx hb d_Z_law_489 (by decide) ?_
  refine lv_iadd hx hb d_Z_law_490 ?_
  refine k_top (nI (i + 1)) (nI_add i 1) ?_
  refine va_sld hx hb hX hbl (Nat.not_le.mpr hbl) hS (vp_in_nI (by omega) (by omega)) d_Z_law_491 ?_
  refine k_top (xs (i + 1)) (by rw [show (nI (i + 1)).toNatClampNeg = i + 1 from nI_clamp (by omega)]) ?_
  refine k_roi (va_runV (C := R_M) (As := [.int (xs (i + 1))]) (rest := [.int ((loc N S (xs (i + 1))))]) ⟨hx, hb, hml, hown, hts⟩ (c_Model_locate l D cA q2 N S r g1 g2 g3 g4 (xs (i + 1))) (k_cwV 1 hts m_code_M_locate m_ini_M m_l_Z_85 m_inst_M_locate m_sel_M_locate h_M_locate rfl rfl ⟨Nat.le_of_ble_eq_true rfl, Nat.le_of_ble_eq_true rfl⟩) (pMR hP hK) rfl rfl hl.1 rfl (lv_room (Nat.le_of_ble_eq_true rfl)) d_Z_law_492 ⟨rm_c, rm_s⟩) ?_
  refine lv_icmp_eq (tgt := 588) hx hb d_Z_law_495 rfl (fun g => ?_) (fun g => ?_)
  · exact K z r H locs hP hS hR
  · exact absurd (rfl) g
set_option maxHeartbeats 4000000 in
set_option maxRecDepth 100000 in
theorem law_position {p : Program} {l : Launch} {e : Env} {s : State} {m : MethodId} {below : List Frame} {meth : Method} {c : Code} {H : Heap} {locs : List Loc} {Q : State → Prop} {D : va_G} {cA : ClassId} {q q2 : Nat → Nat} {N S b L i : Nat} {xs : Nat → Int32} {ls : Array Slot} {z : CS} {r : RS} (hC : LC p s m c D cA N S b L xs) (hi : i + 4 ≤ L) (hl : lv_has ls 4 [(3, .int (nI i)), (2, .ref (q2 0)), (1, .ref (q 0)), (0, .ref b)]) (hP : va_P D vwCl (wB cA q q2 N S z r) H) (hD : va_D (lwA s) (wB cA q q2 N S z r)) (hS : va_S (lwA s) s.heap H locs) (hR : RR N S z r)
    (K : ∀ (z1 : CS) (r1 : RS) (H1 : Heap) (locs1 : List Loc), va_P D vwCl (wB cA q q2 N S z1 r1) H1 → va_S (lwA s) s.heap H1 locs1 → RR N S z1 r1 → W p l e room_1 s m #[Value.ref b] below meth c H1 locs1 13 419 Q (F0 m 588 ls [])) : W p l e room_1 s m #[Value.ref b] below meth c H locs 13 419 Q (F0 m 500 ls []) := by
  obtain ⟨hx, hb, hml, hown, hts, hK, hTb, hX, hbl, hL, g1, g2, g3, g4⟩ := hC
  refine lv_aload_n hx hb d_Z_law_500 rfl (lv_at hl 2 rfl) ?_
  refine lv_aload_n hx hb d_Z_law_501 rfl (lv_at hl 3 rfl) ?_
  refine lv_iload_n hx hb d_Z_law_502 rfl (lv_at hl 0 rfl) ?_
  refine lv_iconst (v := 1) hx hb d_Z_law_503 (by decide) ?_
  refine lv_iadd hx hb d_Z_law_504 ?_
  refine k_top (nI (i + 1)) (nI_add i 1) ?_
  refine va_sld hx hb hX hbl (Nat.not_le.mpr hbl) hS (vp_in_nI (by omega) (by omega)) d_Z_law_505 ?_
  refine k_top (xs (i + 1)) (by rw [show (nI (i + 1)).toNatClampNeg = i + 1 from nI_clamp (by omega)]) ?_
  refine k_roi (va_runV (C := R_A) (As := [.int (xs (i + 1))]) (rest := []) ⟨hx, hb, hml, hown, hts⟩ (c_DualParityArray_position l D cA q N S z g1 g2 g3 g4 (xs (i + 1))) (k_cwV 1 hts m_code_A_position m_ini_A m_l_Z_86 m_inst_A_position m_sel_A_position h_A_position rfl rfl ⟨Nat.le_of_ble_eq_true rfl, Nat.le_of_ble_eq_true rfl⟩) (pAR hP hK) rfl rfl hl.1 rfl (lv_room (Nat.le_of_ble_eq_true rfl)) d_Z_law_506 ⟨rm_c, rm_s⟩) ?_
  refine lv_aload_n hx hb d_Z_law_509 rfl (lv_at hl 1 rfl) ?_
  refine lv_aload_n hx hb d_Z_law_510 rfl (lv_at hl 3 rfl) ?_
  refine lv_iload_n hx hb d_Z_law_511 rfl (lv_at hl 0 rfl) ?_
  refine lv_iconst (v := 1) hx hb d_Z_law_512 (by decide) ?_
  refine lv_iadd hx hb d_Z_law_513 ?_
  refine k_top (nI (i + 1)) (nI_add i 1) ?_
  refine va_sld hx hb hX hbl (Nat.not_le.mpr hbl) hS (vp_in_nI (by omega) (by omega)) d_Z_law_514 ?_
  refine k_top (xs (i + 1)) (by rw [show (nI (i + 1)).toNatClampNeg = i + 1 from nI_clamp (by omega)]) ?_
  refine k_roi (va_runV (C := R_M) (As := [.int (xs (i + 1))]) (rest := [.int ((cPo N (xs (i + 1)) z))]) ⟨hx, hb, hml, hown, hts⟩ (c_Model_position l D cA q2 N S r g1 g2 g3 g4 (xs (i + 1))) (k_cwV 1 hts m_code_M_position m_ini_M m_l_Z_89 m_inst_M_position m_sel_M_position h_M_position rfl rfl ⟨Nat.le_of_ble_eq_true rfl, Nat.le_of_ble_eq_true rfl⟩) (pMR hP hK) rfl rfl hl.1 rfl (lv_room (Nat.le_of_ble_eq_true rfl)) d_Z_law_515 ⟨rm_c, rm_s⟩) ?_
  refine lv_icmp_eq (tgt := 588) hx hb d_Z_law_518 rfl (fun g => ?_) (fun g => ?_)
  · exact K z r H locs hP hS hR
  · exact absurd (po_eq g2 g4 hR) g
set_option maxHeartbeats 4000000 in
set_option maxRecDepth 100000 in
theorem law_mode {p : Program} {l : Launch} {e : Env} {s : State} {m : MethodId} {below : List Frame} {meth : Method} {c : Code} {H : Heap} {locs : List Loc} {Q : State → Prop} {D : va_G} {cA : ClassId} {q q2 : Nat → Nat} {N S b L i : Nat} {xs : Nat → Int32} {ls : Array Slot} {z : CS} {r : RS} (hC : LC p s m c D cA N S b L xs) (hi : i + 4 ≤ L) (hl : lv_has ls 4 [(3, .int (nI i)), (2, .ref (q2 0)), (1, .ref (q 0)), (0, .ref b)]) (hP : va_P D vwCl (wB cA q q2 N S z r) H) (hD : va_D (lwA s) (wB cA q q2 N S z r)) (hS : va_S (lwA s) s.heap H locs) (hR : RR N S z r)
    (K : ∀ (z1 : CS) (r1 : RS) (H1 : Heap) (locs1 : List Loc), va_P D vwCl (wB cA q q2 N S z1 r1) H1 → va_S (lwA s) s.heap H1 locs1 → RR N S z1 r1 → W p l e room_1 s m #[Value.ref b] below meth c H1 locs1 13 419 Q (F0 m 588 ls [])) : W p l e room_1 s m #[Value.ref b] below meth c H locs 13 419 Q (F0 m 523 ls []) := by
  obtain ⟨hx, hb, hml, hown, hts, hK, hTb, hX, hbl, hL, g1, g2, g3, g4⟩ := hC
  refine lv_aload_n hx hb d_Z_law_523 rfl (lv_at hl 2 rfl) ?_
  refine k_roi (va_runV (C := R_A) (As := []) (rest := []) ⟨hx, hb, hml, hown, hts⟩ (c_DualParityArray_mode l D cA q N S z g1 g2 g3 g4) (k_cwV 0 hts m_code_A_mode m_ini_A m_l_Z_90 m_inst_A_mode m_sel_A_mode h_A_mode rfl rfl ⟨Nat.le_of_ble_eq_true rfl, Nat.le_of_ble_eq_true rfl⟩) (pAR hP hK) rfl rfl hl.1 rfl (lv_room (Nat.le_of_ble_eq_true rfl)) d_Z_law_524 ⟨rm_c, rm_s⟩) ?_
  refine lv_aload_n hx hb d_Z_law_527 rfl (lv_at hl 1 rfl) ?_
  refine k_roi (va_runV (C := R_M) (As := []) (rest := [.int ((cMo N S z))]) ⟨hx, hb, hml, hown, hts⟩ (c_Model_mode l D cA q2 N S r g1 g2 g3 g4) (k_cwV 0 hts m_code_M_mode m_ini_M m_l_Z_93 m_inst_M_mode m_sel_M_mode h_M_mode rfl rfl ⟨Nat.le_of_ble_eq_true rfl, Nat.le_of_ble_eq_true rfl⟩) (pMR hP hK) rfl rfl hl.1 rfl (lv_room (Nat.le_of_ble_eq_true rfl)) d_Z_law_528 ⟨rm_c, rm_s⟩) ?_
  refine lv_icmp_eq (tgt := 588) hx hb d_Z_law_531 rfl (fun g => ?_) (fun g => ?_)
  · exact K z r H locs hP hS hR
  · exact absurd (mo_eq hR) g
set_option maxHeartbeats 4000000 in
set_option maxRecDepth 100000 in
theorem law_logged {p : Program} {l : Launch} {e : Env} {s : State} {m : MethodId} {below : List Frame} {meth : Method} {c : Code} {H : Heap} {locs : List Loc} {Q : State → Prop} {D : va_G} {cA : ClassId} {q q2 : Nat → Nat} {N S b L i : Nat} {xs : Nat → Int32} {ls : Array Slot} {z : CS} {r : RS} (hC : LC p s m c D cA N S b L xs) (hi : i + 4 ≤ L) (hl : lv_has ls 4 [(3, .int (nI i)), (2, .ref (q2 0)), (1, .ref (q 0)), (0, .ref b)]) (hP : va_P D vwCl (wB cA q q2 N S z r) H) (hD : va_D (lwA s) (wB cA q q2 N S z r)) (hS : va_S (lwA s) s.heap H locs) (hR : RR N S z r)
    (K : ∀ (z1 : CS) (r1 : RS) (H1 : Heap) (locs1 : List Loc), va_P D vwCl (wB cA q q2 N S z1 r1) H1 → va_S (lwA s) s.heap H1 locs1 → RR N S z1 r1 → W p l e room_1 s m #[Value.ref b] below meth c H1 locs1 13 419 Q (F0 m 588 ls [])) : W p l e room_1 s m #[Value.ref b] below meth c H locs 13 419 Q (F0 m 536 ls []) := by
  obtain ⟨hx, hb, hml, hown, hts, hK, hTb, hX, hbl, hL, g1, g2, g3, g4⟩ := hC
  refine lv_aload_n hx hb d_Z_law_536 rfl (lv_at hl 2 rfl) ?_
  refine k_roi (va_runV (C := R_A) (As := []) (rest := []) ⟨hx, hb, hml, hown, hts⟩ (c_DualParityArray_logged l D cA q N S z g1 g2 g3 g4) (k_cwV 0 hts m_code_A_logged m_ini_A m_l_Z_94 m_inst_A_logged m_sel_A_logged h_A_logged rfl rfl ⟨Nat.le_of_ble_eq_true rfl, Nat.le_of_ble_eq_true rfl⟩) (pAR hP hK) rfl rfl hl.1 rfl (lv_room (Nat.le_of_ble_eq_true rfl)) d_Z_law_537 ⟨rm_c, rm_s⟩) ?_
  refine lv_aload_n hx hb d_Z_law_540 rfl (lv_at hl 1 rfl) ?_
  refine k_roi (va_runV (C := R_M) (As := []) (rest := [.int ((cLs z))]) ⟨hx, hb, hml, hown, hts⟩ (c_Model_logged l D cA q2 N S r g1 g2 g3 g4) (k_cwV 0 hts m_code_M_logged m_ini_M m_l_Z_97 m_inst_M_logged m_sel_M_logged h_M_logged rfl rfl ⟨Nat.le_of_ble_eq_true rfl, Nat.le_of_ble_eq_true rfl⟩) (pMR hP hK) rfl rfl hl.1 rfl (lv_room (Nat.le_of_ble_eq_true rfl)) d_Z_law_541 ⟨rm_c, rm_s⟩) ?_
  refine lv_icmp_eq (tgt := 588) hx hb d_Z_law_544 rfl (fun g => ?_) (fun g => ?_)
  · exact K z r H locs hP hS hR
  · exact absurd (lg_eq hR) g
set_option maxHeartbeats 4000000 in
set_option maxRecDepth 100000 in
theorem law_spares {p : Program} {l : Launch} {e : Env} {s : State} {m : MethodId} {below : List Frame} {meth : Method} {c : Code} {H : Heap} {locs : List Loc} {Q : State → Prop} {D : va_G} {cA : ClassId} {q q2 : Nat → Nat} {N S b L i : Nat} {xs : Nat → Int32} {ls : Array Slot} {z : CS} {r : RS} (hC : LC p s m c D cA N S b L xs) (hi : i + 4 ≤ L) (hl : lv_has ls 4 [(3, .int (nI i)), (2, .ref (q2 0)), (1, .ref (q 0)), (0, .ref b)]) (hP : va_P D vwCl (wB cA q q2 N S z r) H) (hD : va_D (lwA s) (wB cA q q2 N S z r)) (hS : va_S (lwA s) s.heap H locs) (hR : RR N S z r)
    (K : ∀ (z1 : CS) (r1 : RS) (H1 : Heap) (locs1 : List Loc), va_P D vwCl (wB cA q q2 N S z1 r1) H1 → va_S (lwA s) s.heap H1 locs1 → RR N S z1 r1 → W p l e room_1 s m #[Value.ref b] below meth c H1 locs1 13 419 Q (F0 m 588 ls [])) : W p l e room_1 s m #[Value.ref b] below meth c H locs 13 419 Q (F0 m 549 ls []) := by
  obtain ⟨hx, hb, hml, hown, hts, hK, hTb, hX, hbl, hL, g1, g2, g3, g4⟩ := hC
  refine lv_aload_n hx hb d_Z_law_549 rfl (lv_at hl 2 rfl) ?_
  refine k_roi (va_runV (C := R_A) (As := []) (rest := []) ⟨hx, hb, hml, hown, hts⟩ (c_DualParityArray_spares l D cA q N S z g1 g2 g3 g4) (k_cwV 0 hts m_code_A_spares m_ini_A m_l_Z_98 m_inst_A_spares m_sel_A_spares h_A_spares rfl rfl ⟨Nat.le_of_ble_eq_true rfl, Nat.le_of_ble_eq_true rfl⟩) (pAR hP hK) rfl rfl hl.1 rfl (lv_room (Nat.le_of_ble_eq_true rfl)) d_Z_law_550 ⟨rm_c, rm_s⟩) ?_
  refine lv_aload_n hx hb d_Z_law_553 rfl (lv_at hl 1 rfl) ?_
  refine k_roi (va_runV (C := R_M) (As := []) (rest := [.int ((cLe z))]) ⟨hx, hb, hml, hown, hts⟩ (c_Model_spares l D cA q2 N S r g1 g2 g3 g4) (k_cwV 0 hts m_code_M_spares m_ini_M m_l_Z_101 m_inst_M_spares m_sel_M_spares h_M_spares rfl rfl ⟨Nat.le_of_ble_eq_true rfl, Nat.le_of_ble_eq_true rfl⟩) (pMR hP hK) rfl rfl hl.1 rfl (lv_room (Nat.le_of_ble_eq_true rfl)) d_Z_law_554 ⟨rm_c, rm_s⟩) ?_
  refine lv_icmp_eq (tgt := 588) hx hb d_Z_law_557 rfl (fun g => ?_) (fun g => ?_)
  · exact K z r H locs hP hS hR
  · exact absurd (hR.1.1) g
set_option maxHeartbeats 4000000 in
set_option maxRecDepth 100000 in
theorem law_reads {p : Program} {l : Launch} {e : Env} {s : State} {m : MethodId} {below : List Frame} {meth : Method} {c : Code} {H : Heap} {locs : List Loc} {Q : State → Prop} {D : va_G} {cA : ClassId} {q q2 : Nat → Nat} {N S b L i : Nat} {xs : Nat → Int32} {ls : Array Slot} {z : CS} {r : RS} (hC : LC p s m c D cA N S b L xs) (hi : i + 4 ≤ L) (hl : lv_has ls 4 [(3, .int (nI i)), (2, .ref (q2 0)), (1, .ref (q 0)), (0, .ref b)]) (hP : va_P D vwCl (wB cA q q2 N S z r) H) (hD : va_D (lwA s) (wB cA q q2 N S z r)) (hS : va_S (lwA s) s.heap H locs) (hR : RR N S z r)
    (K : ∀ (z1 : CS) (r1 : RS) (H1 : Heap) (locs1 : List Loc), va_P D vwCl (wB cA q q2 N S z1 r1) H1 → va_S (lwA s) s.heap H1 locs1 → RR N S z1 r1 → W p l e room_1 s m #[Value.ref b] below meth c H1 locs1 13 419 Q (F0 m 588 ls [])) : W p l e room_1 s m #[Value.ref b] below meth c H locs 13 419 Q (F0 m 562 ls []) := by
  obtain ⟨hx, hb, hml, hown, hts, hK, hTb, hX, hbl, hL, g1, g2, g3, g4⟩ := hC
  refine lv_aload_n hx hb d_Z_law_562 rfl (lv_at hl 2 rfl) ?_
  refine k_roi (va_runV (C := R_A) (As := []) (rest := []) ⟨hx, hb, hml, hown, hts⟩ (c_DualParityArray_reads l D cA q N S z g1 g2 g3 g4) (k_cwV 0 hts m_code_A_reads m_ini_A m_l_Z_102 m_inst_A_reads m_sel_A_reads h_A_reads rfl rfl ⟨Nat.le_of_ble_eq_true rfl, Nat.le_of_ble_eq_true rfl⟩) (pAR hP hK) rfl rfl hl.1 rfl (lv_room (Nat.le_of_ble_eq_true rfl)) d_Z_law_563 ⟨rm_c, rm_s⟩) ?_
  refine lv_aload_n hx hb d_Z_law_566 rfl (lv_at hl 1 rfl) ?_
  refine k_roi (va_runV (C := R_M) (As := []) (rest := [.int ((cRc z))]) ⟨hx, hb, hml, hown, hts⟩ (c_Model_reads l D cA q2 N S r g1 g2 g3 g4) (k_cwV 0 hts m_code_M_reads m_ini_M m_l_Z_105 m_inst_M_reads m_sel_M_reads h_M_reads rfl rfl ⟨Nat.le_of_ble_eq_true rfl, Nat.le_of_ble_eq_true rfl⟩) (pMR hP hK) rfl rfl hl.1 rfl (lv_room (Nat.le_of_ble_eq_true rfl)) d_Z_law_567 ⟨rm_c, rm_s⟩) ?_
  refine lv_icmp_eq (tgt := 588) hx hb d_Z_law_570 rfl (fun g => ?_) (fun g => ?_)
  · exact K z r H locs hP hS hR
  · exact absurd (hR.1.2.2.2.1) g
set_option maxHeartbeats 4000000 in
set_option maxRecDepth 100000 in
theorem law_writes {p : Program} {l : Launch} {e : Env} {s : State} {m : MethodId} {below : List Frame} {meth : Method} {c : Code} {H : Heap} {locs : List Loc} {Q : State → Prop} {D : va_G} {cA : ClassId} {q q2 : Nat → Nat} {N S b L i : Nat} {xs : Nat → Int32} {ls : Array Slot} {z : CS} {r : RS} (hC : LC p s m c D cA N S b L xs) (hi : i + 4 ≤ L) (hl : lv_has ls 4 [(3, .int (nI i)), (2, .ref (q2 0)), (1, .ref (q 0)), (0, .ref b)]) (hP : va_P D vwCl (wB cA q q2 N S z r) H) (hD : va_D (lwA s) (wB cA q q2 N S z r)) (hS : va_S (lwA s) s.heap H locs) (hR : RR N S z r)
    (K : ∀ (z1 : CS) (r1 : RS) (H1 : Heap) (locs1 : List Loc), va_P D vwCl (wB cA q q2 N S z1 r1) H1 → va_S (lwA s) s.heap H1 locs1 → RR N S z1 r1 → W p l e room_1 s m #[Value.ref b] below meth c H1 locs1 13 419 Q (F0 m 588 ls [])) : W p l e room_1 s m #[Value.ref b] below meth c H locs 13 419 Q (F0 m 575 ls []) := by
  obtain ⟨hx, hb, hml, hown, hts, hK, hTb, hX, hbl, hL, g1, g2, g3, g4⟩ := hC
  refine lv_aload_n hx hb d_Z_law_575 rfl (lv_at hl 2 rfl) ?_
  refine k_roi (va_runV (C := R_A) (As := []) (rest := []) ⟨hx, hb, hml, hown, hts⟩ (c_DualParityArray_writes l D cA q N S z g1 g2 g3 g4) (k_cwV 0 hts m_code_A_writes m_ini_A m_l_Z_106 m_inst_A_writes m_sel_A_writes h_A_writes rfl rfl ⟨Nat.le_of_ble_eq_true rfl, Nat.le_of_ble_eq_true rfl⟩) (pAR hP hK) rfl rfl hl.1 rfl (lv_room (Nat.le_of_ble_eq_true rfl)) d_Z_law_576 ⟨rm_c, rm_s⟩) ?_
  refine lv_aload_n hx hb d_Z_law_579 rfl (lv_at hl 1 rfl) ?_
  refine k_roi (va_runV (C := R_M) (As := []) (rest := [.int ((cWc z))]) ⟨hx, hb, hml, hown, hts⟩ (c_Model_writes l D cA q2 N S r g1 g2 g3 g4) (k_cwV 0 hts m_code_M_writes m_ini_M m_l_Z_109 m_inst_M_writes m_sel_M_writes h_M_writes rfl rfl ⟨Nat.le_of_ble_eq_true rfl, Nat.le_of_ble_eq_true rfl⟩) (pMR hP hK) rfl rfl hl.1 rfl (lv_room (Nat.le_of_ble_eq_true rfl)) d_Z_law_580 ⟨rm_c, rm_s⟩) ?_
  refine lv_icmp_eq (tgt := 588) hx hb d_Z_law_583 rfl (fun g => ?_) (fun g => ?_)
  · exact K z r H locs hP hS hR
  · exact absurd (hR.1.2.2.2.2.1) g
theorem law_le {L i : Nat} (hL : L ≤ 2051) (hi : i ≤ L + 3) (g : ¬ nI L - nI 4 < nI i) : i + 4 ≤ L := by
  rw [Int32.lt_iff_toInt_lt, pk_sub_toInt (by omega) (by omega), nI_toInt (by omega)] at g
  omega
theorem d_Z_law_62 : decode b_Z_law 62 = .ok (.tableswitch 526 0 19 #[94, 118, 151, 194, 217, 240, 253, 276, 319, 342, 355, 368, 381, 415, 438, 461, 474, 487, 500, 513], 94) := by decide +kernel
set_option maxHeartbeats 4000000 in
set_option maxRecDepth 100000 in
theorem law_loop {p : Program} {l : Launch} {e : Env} {s : State} {m : MethodId} {below : List Frame} {meth : Method} {c : Code} {Q : State → Prop} {D : va_G} {cA : ClassId} {q q2 : Nat → Nat} {N S b L : Nat} {xs : Nat → Int32} (hC : LC p s m c D cA N S b L xs) {z0 : CS} {r0 : RS} (hD : va_D (lwA s) (wB cA q q2 N S z0 r0)) (hE : ∀ (ls : Array Slot) (H : Heap) (locs : List Loc), va_S (lwA s) s.heap H locs → W p l e room_1 s m #[Value.ref b] below meth c H locs 13 419 Q (F0 m 594 ls [])) :
    ∀ (k i : Nat) (ls : Array Slot) (H : Heap) (locs : List Loc) (z : CS) (r : RS), L ≤ i + k → i ≤ L + 3 → lv_has ls 4 [(3, .int (nI i)), (2, .ref (q2 0)), (1, .ref (q 0)), (0, .ref b)] → va_P D vwCl (wB cA q q2 N S z r) H → va_S (lwA s) s.heap H locs → RR N S z r → W p l e room_1 s m #[Value.ref b] below meth c H locs 13 419 Q (F0 m 48 ls []) := by
  have hC0 := hC
  obtain ⟨hx, hb, hml, hown, hts, hK, hTb, hX, hbl, hL, g1, g2, g3, g4⟩ := hC0
  intro k
  induction k with
  | zero =>
    intro i ls H locs z r hk hi hl hP hS hR
    refine lv_iload_n hx hb d_Z_law_48 rfl (lv_at hl 0 rfl) ?_
    refine lv_aload_n hx hb d_Z_law_49 rfl (lv_at hl 3 rfl) ?_
    refine va_slen hx hb hX hbl (Nat.not_le.mpr hbl) hS d_Z_law_50 ?_
    refine lv_iconst (v := 4) hx hb d_Z_law_51 (by decide) ?_
    refine lv_isub hx hb d_Z_law_52 ?_
    refine k_top (nI L - nI 4) rfl ?_
    refine lv_icmp_gt (tgt := 594) hx hb d_Z_law_53 rfl (fun g => hE ls H locs hS) (fun g => ?_)
    have hle : i + 4 ≤ L := law_le hL hi g
    exfalso; omega
  | succ k ih =>
    intro i ls H locs z r hk hi hl hP hS hR
    refine lv_iload_n hx hb d_Z_law_48 rfl (lv_at hl 0 rfl) ?_
    refine lv_aload_n hx hb d_Z_law_49 rfl (lv_at hl 3 rfl) ?_
    refine va_slen hx hb hX hbl (Nat.not_le.mpr hbl) hS d_Z_law_50 ?_
    refine lv_iconst (v := 4) hx hb d_Z_law_51 (by decide) ?_
    refine lv_isub hx hb d_Z_law_52 ?_
    refine k_top (nI L - nI 4) rfl ?_
    refine lv_icmp_gt (tgt := 594) hx hb d_Z_law_53 rfl (fun g => hE ls H locs hS) (fun g => ?_)
    have hle : i + 4 ≤ L := law_le hL hi g
    have hD : va_D (lwA s) (wB cA q q2 N S z r) := k_D hD rfl
    have K : ∀ (z1 : CS) (r1 : RS) (H1 : Heap) (locs1 : List Loc), va_P D vwCl (wB cA q q2 N S z1 r1) H1 → va_S (lwA s) s.heap H1 locs1 → RR N S z1 r1 → W p l e room_1 s m #[Value.ref b] below meth c H1 locs1 13 419 Q (F0 m 588 ls []) := by
      intro z1 r1 H1 locs1 hP1 hS1 hR1
      refine lv_iinc (k := 0) (v := nI (i + 4)) (lv' := [(3, .int (nI (i + 4))), (2, .ref (q2 0)), (1, .ref (q 0)), (0, .ref b)]) hx hb d_Z_law_588 hl rfl (nI_add i 4) (by decide) rfl (fun ls hl => ?_)
      refine lv_goto hx hb d_Z_law_591 rfl ?_
      exact ih (i + 4) ls H1 locs1 z1 r1 (by omega) (by omega) hl hP1 hS1 hR1
    refine lv_aload_n hx hb d_Z_law_56 rfl (lv_at hl 3 rfl) ?_
    refine lv_iload_n hx hb d_Z_law_57 rfl (lv_at hl 0 rfl) ?_
    refine va_sld hx hb hX hbl (Nat.not_le.mpr hbl) hS (vp_in_nI (by omega) (by omega)) d_Z_law_58 ?_
    refine lv_bipush (v := 31) hx hb d_Z_law_59 (by decide) ?_
    refine lv_iand hx hb d_Z_law_61 ?_
    refine lv_topi (fun y hy => ?_)
    by_cases h : y.toInt < 0 ∨ 19 < y.toInt
    · refine lv_tableOut (tgt := 588) hx hb d_Z_law_62 h (by decide) ?_
      exact K z r H locs hP hS hR
    · have hc : y.toInt = 0 ∨ y.toInt = 1 ∨ y.toInt = 2 ∨ y.toInt = 3 ∨ y.toInt = 4 ∨ y.toInt = 5 ∨ y.toInt = 6 ∨ y.toInt = 7 ∨ y.toInt = 8 ∨ y.toInt = 9 ∨ y.toInt = 10 ∨ y.toInt = 11 ∨ y.toInt = 12 ∨ y.toInt = 13 ∨ y.toInt = 14 ∨ y.toInt = 15 ∨ y.toInt = 16 ∨ y.toInt = 17 ∨ y.toInt = 18 ∨ y.toInt = 19 := by omega
      have h1 : ¬ y.toInt < 0 := by omega
      have h2 : ¬ 19 < y.toInt := by omega
      rcases hc with hc | hc | hc | hc | hc | hc | hc | hc | hc | hc | hc | hc | hc | hc | hc | hc | hc | hc | hc | hc
      · refine lv_tableIn (off := 94) (tgt := 156) hx hb d_Z_law_62 h1 h2 (by rw [hc]; rfl) (by decide) ?_
        exact law_read hC hle hl hP hD hS hR K
      · refine lv_tableIn (off := 118) (tgt := 180) hx hb d_Z_law_62 h1 h2 (by rw [hc]; rfl) (by decide) ?_
        exact law_write hC hle hl hP hD hS hR K
      · refine lv_tableIn (off := 151) (tgt := 213) hx hb d_Z_law_62 h1 h2 (by rw [hc]; rfl) (by decide) ?_
        exact law_writeRun hC hle hl hP hD hS hR K
      · refine lv_tableIn (off := 194) (tgt := 256) hx hb d_Z_law_62 h1 h2 (by rw [hc]; rfl) (by decide) ?_
        exact law_fail hC hle hl hP hD hS hR K
      · refine lv_tableIn (off := 217) (tgt := 279) hx hb d_Z_law_62 h1 h2 (by rw [hc]; rfl) (by decide) ?_
        exact law_replace hC hle hl hP hD hS hR K
      · refine lv_tableIn (off := 240) (tgt := 302) hx hb d_Z_law_62 h1 h2 (by rw [hc]; rfl) (by decide) ?_
        exact law_rebuild hC hle hl hP hD hS hR K
      · refine lv_tableIn (off := 253) (tgt := 315) hx hb d_Z_law_62 h1 h2 (by rw [hc]; rfl) (by decide) ?_
        exact law_scrub hC hle hl hP hD hS hR K
      · refine lv_tableIn (off := 276) (tgt := 338) hx hb d_Z_law_62 h1 h2 (by rw [hc]; rfl) (by decide) ?_
        exact law_corrupt hC hle hl hP hD hS hR K
      · refine lv_tableIn (off := 319) (tgt := 381) hx hb d_Z_law_62 h1 h2 (by rw [hc]; rfl) (by decide) ?_
        exact law_arm hC hle hl hP hD hS hR K
      · refine lv_tableIn (off := 342) (tgt := 404) hx hb d_Z_law_62 h1 h2 (by rw [hc]; rfl) (by decide) ?_
        exact law_crash hC hle hl hP hD hS hR K
      · refine lv_tableIn (off := 355) (tgt := 417) hx hb d_Z_law_62 h1 h2 (by rw [hc]; rfl) (by decide) ?_
        exact law_restart hC hle hl hP hD hS hR K
      · refine lv_tableIn (off := 368) (tgt := 430) hx hb d_Z_law_62 h1 h2 (by rw [hc]; rfl) (by decide) ?_
        exact law_faults hC hle hl hP hD hS hR K
      · refine lv_tableIn (off := 381) (tgt := 443) hx hb d_Z_law_62 h1 h2 (by rw [hc]; rfl) (by decide) ?_
        exact law_peek hC hle hl hP hD hS hR K
      · refine lv_tableIn (off := 415) (tgt := 477) hx hb d_Z_law_62 h1 h2 (by rw [hc]; rfl) (by decide) ?_
        exact law_locate hC hle hl hP hD hS hR K
      · refine lv_tableIn (off := 438) (tgt := 500) hx hb d_Z_law_62 h1 h2 (by rw [hc]; rfl) (by decide) ?_
        exact law_position hC hle hl hP hD hS hR K
      · refine lv_tableIn (off := 461) (tgt := 523) hx hb d_Z_law_62 h1 h2 (by rw [hc]; rfl) (by decide) ?_
        exact law_mode hC hle hl hP hD hS hR K
      · refine lv_tableIn (off := 474) (tgt := 536) hx hb d_Z_law_62 h1 h2 (by rw [hc]; rfl) (by decide) ?_
        exact law_logged hC hle hl hP hD hS hR K
      · refine lv_tableIn (off := 487) (tgt := 549) hx hb d_Z_law_62 h1 h2 (by rw [hc]; rfl) (by decide) ?_
        exact law_spares hC hle hl hP hD hS hR K
      · refine lv_tableIn (off := 500) (tgt := 562) hx hb d_Z_law_62 h1 h2 (by rw [hc]; rfl) (by decide) ?_
        exact law_reads hC hle hl hP hD hS hR K
      · refine lv_tableIn (off := 513) (tgt := 575) hx hb d_Z_law_62 h1 h2 (by rw [hc]; rfl) (by decide) ?_
        exact law_writes hC hle hl hP hD hS hR K
