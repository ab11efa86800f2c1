set_option maxHeartbeats 4000000 in
set_option maxRecDepth 100000 in
theorem c_DualParityArray_corrupt (l : Launch) (D : va_G) (cA : ClassId) (q : Nat → Nat) (N S : Nat) (z : CS) (gN4 : 4 ≤ N) (gN : N ≤ 10) (gS1 : 1 ≤ S) (gS : S ≤ 16) (x y w : Int32) : Met l y_A_corrupt w_A_corrupt ({ frames := 2, cells := 0, slots := 0, locals := 43 }) (va_Pc [.ref (q 0), .int x, .int y, .int w] (k_Wc D [(cA, .int)] (wC cA q N S z))) (va_Qi (fun (r : Int32) (_ : Unit) => r = bi ((cCor N S x y w z).1)) (fun _ t => va_P D vwCl (wC cA q N S ((cCor N S x y w z).2)) t.heap) (k_A (wC cA q N S z))) 0 0 (k_A (wC cA q N S z)) := by
  refine Met.ofW (cc := b_A_corrupt) (maxL := 4) (ret := (some .boolean)) (by decide) rfl ?_
  intro p e s m args below meth c s₁ B hml hv
  obtain ⟨rfl, hP, hK, hD0⟩ := hv
  have hx := B.exec
  have hb := B.bytes
  have hr := B.returns
  have hts0 := atoms_spec (ws := w_A_corrupt) B.pre
  have hts : ∀ w ∈ lw_g, w.before _ s = true := fun w h => hts0 w (List.mem_cons_of_mem _ h)
  have hown : s.vm.findClass R_A = some m.cls := findClass_of_methodNamed B.named
  have hlocks := B.notSynchronized
  have hD := k_Dself hD0
  have hS : va_S (k_A (wC cA q N S z)) s.heap s.heap [] := va_S.rf
  have hl := lv_entry ([.ref (q 0), .int x, .int y, .int w]) (n := 4) (Nat.le_of_ble_eq_true rfl)
  rw [lg_entry_eq]
  generalize (lg_sl ([.ref (q 0), .int x, .int y, .int w]) ++ List.replicate (4 - (lg_sl ([.ref (q 0), .int x, .int y, .int w])).length) Slot.unset).toArray = ls at hl ⊢
  have hl : lv_has ls 4 [(0, .ref (q 0)), (1, .int x), (2, .int y), (3, .int w)] := hl
  refine lv_aload_n hx hb d_A_corrupt_0 rfl (lv_at hl 0 rfl) ?_
  refine va_get (D := D) (ci := 3) (v := .ref (q 1)) (C := R_A) (T := T_A) (N := 11) hx hb hts (in_A) hown hK hP 0 rfl rfl 2 (by decide) (hts _ m_f_A_25) (fun _ h9 => h9) rfl d_A_corrupt_1 ?_
  refine lv_iload_n hx hb d_A_corrupt_4 rfl (lv_at hl 1 rfl) ?_
  refine lv_iload_n hx hb d_A_corrupt_5 rfl (lv_at hl 2 rfl) ?_
  refine k_roi (va_runV (C := R_D) (As := [.int x, .int y]) (rest := []) ⟨hx, hb, hml, hown, hts⟩ (c_Disks_hasCell l D cA (q 1) (q 2) (q 3) N S (cW z) (cP z) (by omega) (by omega) (by omega) (by omega) x y) (k_cwV 2 hts m_code_D_hasCell m_ini_D m_l_A_154 m_inst_D_hasCell m_sel_D_hasCell h_D_hasCell rfl rfl ⟨Nat.le_of_ble_eq_true rfl, Nat.le_of_ble_eq_true rfl⟩) (k_pR hP hK [1, 2, 3] rfl 1 0 rfl rfl) rfl rfl hl.1 rfl (lv_room (Nat.le_of_ble_eq_true rfl)) d_A_corrupt_6 ⟨Nat.zero_le _, Nat.zero_le _⟩) ?_
  refine lv_if_eq (tgt := 24) hx hb d_A_corrupt_9 rfl (fun g9 => ?_) (fun g9 => ?_)
  · have h9 := of_decide_eq_false (bi_z.mp g9)
    refine lv_iconst (v := 0) hx hb d_A_corrupt_24 (by decide) ?_
    have e1 : (cCor N S x y w z).2 = z := by first | ((try unfold cCor); (repeat (first | rw [if_pos g9] | rw [if_neg g9] | rw [if_pos h9] | rw [if_neg h9] | rw [if_neg (show ¬ true = false by decide)] | rw [if_pos (show false = false from rfl)] | dsimp only)); first | done | rfl) | rfl | (simp [cCor, bi, g9, h9]; done)
    exact W.zret (v := 0) (ty := .boolean) hx hb hr (rfl) (fun t ht hW => ⟨⟨_, (), rfl, by first | ((try unfold cCor); (repeat (first | rw [if_pos g9] | rw [if_neg g9] | rw [if_pos h9] | rw [if_neg h9] | rw [if_neg (show ¬ true = false by decide)] | rw [if_pos (show false = false from rfl)] | dsimp only)); first | done | rfl) | rfl | (simp [cCor, bi, g9, h9]; done), by show va_P D vwCl (wC cA q N S ((cCor N S x y w z).2)) t.heap; rw [ht, e1]; exact hP⟩, hS.F ht⟩) hS.2.2 d_A_corrupt_25
  · have h9 := of_decide_eq_true (bi_nz.mp g9)
    obtain ⟨hx1, hx2⟩ := tn_of (by omega) h9.1
    have hl : lv_has ls 4 [(0, .ref (q 0)), (1, .int (nI (tn x))), (2, .int y), (3, .int w)] := by rw [← hx2]; exact hl
    refine lv_aload_n hx hb d_A_corrupt_12 rfl (lv_at hl 0 rfl) ?_
    refine va_get (D := D) (ci := 3) (v := .ref (q 1)) (C := R_A) (T := T_A) (N := 11) hx hb hts (in_A) hown hK hP 0 rfl rfl 2 (by decide) (hts _ m_f_A_25) (fun _ h9 => h9) rfl d_A_corrupt_13 ?_
    refine lv_iload_n hx hb d_A_corrupt_16 rfl (lv_at hl 1 rfl) ?_
    refine lv_iload_n hx hb d_A_corrupt_17 rfl (lv_at hl 2 rfl) ?_
    refine k_roi (va_runV (C := R_D) (As := [.int (nI (tn x)), .int y]) (rest := []) ⟨hx, hb, hml, hown, hts⟩ (c_Disks_available l D cA (q 1) (q 2) (q 3) N S (cW z) (cP z) (by omega) (by omega) (by omega) (by omega) (tn x) y (by omega)) (k_cwV 2 hts m_code_D_available m_ini_D m_l_A_65 m_inst_D_available m_sel_D_available h_D_available rfl rfl ⟨Nat.le_of_ble_eq_true rfl, Nat.le_of_ble_eq_true rfl⟩) (k_pR hP hK [1, 2, 3] rfl 1 0 rfl rfl) rfl rfl hl.1 rfl (lv_room (Nat.le_of_ble_eq_true rfl)) d_A_corrupt_18 ⟨Nat.zero_le _, Nat.zero_le _⟩) ?_
    refine lv_if_ne (tgt := 26) hx hb d_A_corrupt_21 rfl (fun g21 => ?_) (fun g21 => ?_)
    · have h21 := of_decide_eq_true (bi_nz.mp g21)
      obtain ⟨hy1, hy2⟩ := tn_of (by omega) h9.2
      have hl : lv_has ls 4 [(0, .ref (q 0)), (1, .int (nI (tn x))), (2, .int (nI (tn y))), (3, .int w)] := by rw [← hy2]; exact hl
      refine lv_aload_n hx hb d_A_corrupt_26 rfl (lv_at hl 0 rfl) ?_
      refine va_get (D := D) (ci := 3) (v := .ref (q 1)) (C := R_A) (T := T_A) (N := 11) hx hb hts (in_A) hown hK hP 0 rfl rfl 2 (by decide) (hts _ m_f_A_25) (fun _ h9 => h9) rfl d_A_corrupt_27 ?_
      refine lv_iload_n hx hb d_A_corrupt_30 rfl (lv_at hl 1 rfl) ?_
      refine lv_iload_n hx hb d_A_corrupt_31 rfl (lv_at hl 2 rfl) ?_
      refine lv_aload_n hx hb d_A_corrupt_32 rfl (lv_at hl 0 rfl) ?_
      refine va_get (D := D) (ci := 3) (v := .ref (q 1)) (C := R_A) (T := T_A) (N := 11) hx hb hts (in_A) hown hK hP 0 rfl rfl 2 (by decide) (hts _ m_f_A_25) (fun _ h9 => h9) rfl d_A_corrupt_33 ?_
      refine lv_iload_n hx hb d_A_corrupt_36 rfl (lv_at hl 1 rfl) ?_
      refine lv_iload_n hx hb d_A_corrupt_37 rfl (lv_at hl 2 rfl) ?_
      refine k_roi (va_runV (C := R_D) (As := [.int (nI (tn x)), .int (nI (tn y))]) (rest := [.int (nI (tn y)), .int (nI (tn x)), .ref (q 1)]) ⟨hx, hb, hml, hown, hts⟩ (c_Disks_wordAt l D cA (q 1) (q 2) (q 3) N S (cW z) (cP z) (by omega) (by omega) (by omega) (by omega) (tn x) (tn y) (by omega) (by omega)) (k_cwV 2 hts m_code_D_wordAt m_ini_D m_l_A_72 m_inst_D_wordAt m_sel_D_wordAt h_D_wordAt rfl rfl ⟨Nat.le_of_ble_eq_true rfl, Nat.le_of_ble_eq_true rfl⟩) (k_pR hP hK [1, 2, 3] rfl 1 0 rfl rfl) rfl rfl hl.1 rfl (lv_room (Nat.le_of_ble_eq_true rfl)) d_A_corrupt_38 ⟨Nat.zero_le _, Nat.zero_le _⟩) ?_
      refine lv_iload_n hx hb d_A_corrupt_41 rfl (lv_at hl 3 rfl) ?_
      refine lv_ixor hx hb d_A_corrupt_42 ?_
      refine k_wrv (va_runV (C := R_D) (As := [.int (nI (tn x)), .int (nI (tn y)), .int (((cW z) ((tn x) * S + (tn y))) ^^^ w)]) (rest := []) ⟨hx, hb, hml, hown, hts⟩ (c_Disks_put l D cA (q 1) (q 2) (q 3) N S (cW z) (cP z) (by omega) (by omega) (by omega) (by omega) (tn x) (tn y) (((cW z) ((tn x) * S + (tn y))) ^^^ w) (by omega) (by omega)) (k_cwV 3 hts m_code_D_put m_ini_D m_l_A_157 m_inst_D_put m_sel_D_put h_D_put rfl rfl ⟨Nat.le_of_ble_eq_true rfl, Nat.le_of_ble_eq_true rfl⟩) (k_pW hP hK hD [1, 2, 3] (by decide) rfl 1 0 rfl rfl) rfl rfl hl.1 rfl (lv_room (Nat.le_of_ble_eq_true rfl)) d_A_corrupt_43 ⟨Nat.zero_le _, Nat.zero_le _⟩) hS hD [1, 2, 3] rfl (fun u H1 locs _ hk hP1 hS => ?_)
      have hP : va_P D vwCl (wC cA q N S (sW z (upd (cW z) ((tn x) * S + (tn y)) (((cW z) ((tn x) * S + (tn y))) ^^^ w)))) H1 := k_bk hP hD [1, 2, 3] [0, 4, 5, 6, 7] rfl (by decide) hk hP1 [0, 5, 6, 7, 1, 2, 3, 4] rfl
      have hD : va_D (k_A (wC cA q N S z)) (wC cA q N S (sW z (upd (cW z) ((tn x) * S + (tn y)) (((cW z) ((tn x) * S + (tn y))) ^^^ w)))) := k_D hD rfl
      generalize H1 = H at hP hS ⊢
      refine lv_iconst (v := 1) hx hb d_A_corrupt_46 (by decide) ?_
      have e2 : (cCor N S x y w z).2 = sW z (upd (cW z) ((tn x) * S + (tn y)) (((cW z) ((tn x) * S + (tn y))) ^^^ w)) := by first | ((try unfold cCor); (repeat (first | rw [if_pos g9] | rw [if_neg g9] | rw [if_pos h9] | rw [if_neg h9] | rw [if_pos g21] | rw [if_neg g21] | rw [if_pos h21] | rw [if_neg h21] | rw [if_neg (show ¬ true = false by decide)] | rw [if_pos (show false = false from rfl)] | dsimp only)); first | done | rfl) | rfl | (simp [cCor, bi, g9, h9, g21, h21]; done)
      exact W.zret (v := 1) (ty := .boolean) hx hb hr (rfl) (fun t ht hW => ⟨⟨_, (), rfl, by first | ((try unfold cCor); (repeat (first | rw [if_pos g9] | rw [if_neg g9] | rw [if_pos h9] | rw [if_neg h9] | rw [if_pos g21] | rw [if_neg g21] | rw [if_pos h21] | rw [if_neg h21] | rw [if_neg (show ¬ true = false by decide)] | rw [if_pos (show false = false from rfl)] | dsimp only)); first | done | rfl) | rfl | (simp [cCor, bi, g9, h9, g21, h21]; done), by show va_P D vwCl (wC cA q N S ((cCor N S x y w z).2)) t.heap; rw [ht, e2]; exact hP⟩, hS.F ht⟩) hS.2.2 d_A_corrupt_47
    · have h21 := of_decide_eq_false (bi_z.mp g21)
      refine lv_iconst (v := 0) hx hb d_A_corrupt_24 (by decide) ?_
      have e3 : (cCor N S x y w z).2 = z := by first | ((try unfold cCor); (repeat (first | rw [if_pos g9] | rw [if_neg g9] | rw [if_pos h9] | rw [if_neg h9] | rw [if_pos g21] | rw [if_neg g21] | rw [if_pos h21] | rw [if_neg h21] | rw [if_neg (show ¬ true = false by decide)] | rw [if_pos (show false = false from rfl)] | dsimp only)); first | done | rfl) | rfl | (simp [cCor, bi, g9, h9, g21, h21]; done)
      exact W.zret (v := 0) (ty := .boolean) hx hb hr (rfl) (fun t ht hW => ⟨⟨_, (), rfl, by first | ((try unfold cCor); (repeat (first | rw [if_pos g9] | rw [if_neg g9] | rw [if_pos h9] | rw [if_neg h9] | rw [if_pos g21] | rw [if_neg g21] | rw [if_pos h21] | rw [if_neg h21] | rw [if_neg (show ¬ true = false by decide)] | rw [if_pos (show false = false from rfl)] | dsimp only)); first | done | rfl) | rfl | (simp [cCor, bi, g9, h9, g21, h21]; done), by show va_P D vwCl (wC cA q N S ((cCor N S x y w z).2)) t.heap; rw [ht, e3]; exact hP⟩, hS.F ht⟩) hS.2.2 d_A_corrupt_25
set_option maxHeartbeats 4000000 in
set_option maxRecDepth 100000 in
theorem c_DualParityArray_arm (l : Launch) (D : va_G) (cA : ClassId) (q : Nat → Nat) (N S : Nat) (z : CS) (gN4 : 4 ≤ N) (gN : N ≤ 10) (gS1 : 1 ≤ S) (gS : S ≤ 16) (x : Int32) : Met l y_A_arm w_A_arm ({ frames := 0, cells := 0, slots := 0, locals := 0 }) (va_Pc [.ref (q 0), .int x] (k_Wc D [(cA, .int)] (wC cA q N S z))) (va_Qi (fun (r : Int32) (_ : Unit) => r = bi ((cArm x z).1)) (fun _ t => va_P D vwCl (wC cA q N S ((cArm x z).2)) t.heap) (k_A (wC cA q N S z))) 0 0 (k_A (wC cA q N S z)) := by
  refine Met.ofW (cc := b_A_arm) (maxL := 2) (ret := (some .boolean)) (by decide) rfl ?_
  intro p e s m args below meth c s₁ B hml hv
  obtain ⟨rfl, hP, hK, hD0⟩ := hv
  have hx := B.exec
  have hb := B.bytes
  have hr := B.returns
  have hts0 := atoms_spec (ws := w_A_arm) B.pre
  have hts : ∀ w ∈ lw_g, w.before _ s = true := fun w h => hts0 w (List.mem_cons_of_mem _ h)
  have hown : s.vm.findClass R_A = some m.cls := findClass_of_methodNamed B.named
  have hlocks := B.notSynchronized
  have hD := k_Dself hD0
  have hS : va_S (k_A (wC cA q N S z)) s.heap s.heap [] := va_S.rf
  have hl := lv_entry ([.ref (q 0), .int x]) (n := 2) (Nat.le_of_ble_eq_true rfl)
  rw [lg_entry_eq]
  generalize (lg_sl ([.ref (q 0), .int x]) ++ List.replicate (2 - (lg_sl ([.ref (q 0), .int x])).length) Slot.unset).toArray = ls at hl ⊢
  have hl : lv_has ls 2 [(0, .ref (q 0)), (1, .int x)] := hl
  refine lv_iload_n hx hb d_A_arm_0 rfl (lv_at hl 1 rfl) ?_
  refine lv_if_lt (tgt := 11) hx hb d_A_arm_1 rfl (fun g1 => ?_) (fun g1 => ?_)
  · have h1 := Int32.not_le.mpr g1
    refine lv_iconst (v := 0) hx hb d_A_arm_11 (by decide) ?_
    have e1 : (cArm x z).2 = z := by first | ((try unfold cArm); (repeat (first | rw [if_pos g1] | rw [if_neg g1] | rw [if_pos h1] | rw [if_neg h1] | rw [if_neg (show ¬ true = false by decide)] | rw [if_pos (show false = false from rfl)] | dsimp only)); first | done | rfl) | rfl | (simp [cArm, bi, g1, h1]; done)
    exact W.zret (v := 0) (ty := .boolean) hx hb hr (rfl) (fun t ht hW => ⟨⟨_, (), rfl, by first | ((try unfold cArm); (repeat (first | rw [if_pos g1] | rw [if_neg g1] | rw [if_pos h1] | rw [if_neg h1] | rw [if_neg (show ¬ true = false by decide)] | rw [if_pos (show false = false from rfl)] | dsimp only)); first | done | rfl) | rfl | (simp [cArm, bi, g1, h1]; done), by show va_P D vwCl (wC cA q N S ((cArm x z).2)) t.heap; rw [ht, e1]; exact hP⟩, hS.F ht⟩) hS.2.2 d_A_arm_12
  · have h1 := Int32.not_lt.mp g1
    refine lv_iload_n hx hb d_A_arm_4 rfl (lv_at hl 1 rfl) ?_
    refine lv_sipush (v := 1000) hx hb d_A_arm_5 (by decide) ?_
    refine lv_icmp_le (tgt := 13) hx hb d_A_arm_8 rfl (fun g8 => ?_) (fun g8 => ?_)
    · have h8 := Int32.not_lt.mpr g8
      refine lv_aload_n hx hb d_A_arm_13 rfl (lv_at hl 0 rfl) ?_
      refine lv_iload_n hx hb d_A_arm_14 rfl (lv_at hl 1 rfl) ?_
      refine va_put (D := D) (ci := 3) (v := .int x) (ty := .int) (C := R_A) (T := T_A) (N := 11) hx hb hts (in_A) ty_A tyok_A nm_A hown hK hP hD hS 0 rfl rfl 7 (by decide) (hts _ m_f_A_48) (fun _ h9 => h9) rfl (by decide +kernel) rfl rfl (Nat.le_of_ble_eq_true rfl) d_A_arm_15 (fun H locs hP hD hS => ?_)
      have hP : va_P D vwCl (wC cA q N S (sUn z x)) H := hP
      have hD : va_D (k_A (wC cA q N S z)) (wC cA q N S (sUn z x)) := hD
      refine lv_iconst (v := 1) hx hb d_A_arm_18 (by decide) ?_
      have e2 : (cArm x z).2 = sUn z x := by first | ((try unfold cArm); (repeat (first | rw [if_pos g1] | rw [if_neg g1] | rw [if_pos h1] | rw [if_neg h1] | rw [if_pos g8] | rw [if_neg g8] | rw [if_pos h8] | rw [if_neg h8] | rw [if_neg (show ¬ true = false by decide)] | rw [if_pos (show false = false from rfl)] | dsimp only)); first | done | rfl) | rfl | (simp [cArm, bi, g1, h1, g8, h8]; done)
      exact W.zret (v := 1) (ty := .boolean) hx hb hr (rfl) (fun t ht hW => ⟨⟨_, (), rfl, by first | ((try unfold cArm); (repeat (first | rw [if_pos g1] | rw [if_neg g1] | rw [if_pos h1] | rw [if_neg h1] | rw [if_pos g8] | rw [if_neg g8] | rw [if_pos h8] | rw [if_neg h8] | rw [if_neg (show ¬ true = false by decide)] | rw [if_pos (show false = false from rfl)] | dsimp only)); first | done | rfl) | rfl | (simp [cArm, bi, g1, h1, g8, h8]; done), by show va_P D vwCl (wC cA q N S ((cArm x z).2)) t.heap; rw [ht, e2]; exact hP⟩, hS.F ht⟩) hS.2.2 d_A_arm_19
    · have h8 := Int32.not_le.mp g8
      refine lv_iconst (v := 0) hx hb d_A_arm_11 (by decide) ?_
      have e3 : (cArm x z).2 = z := by first | ((try unfold cArm); (repeat (first | rw [if_pos g1] | rw [if_neg g1] | rw [if_pos h1] | rw [if_neg h1] | rw [if_pos g8] | rw [if_neg g8] | rw [if_pos h8] | rw [if_neg h8] | rw [if_neg (show ¬ true = false by decide)] | rw [if_pos (show false = false from rfl)] | dsimp only)); first | done | rfl) | rfl | (simp [cArm, bi, g1, h1, g8, h8]; done)
      exact W.zret (v := 0) (ty := .boolean) hx hb hr (rfl) (fun t ht hW => ⟨⟨_, (), rfl, by first | ((try unfold cArm); (repeat (first | rw [if_pos g1] | rw [if_neg g1] | rw [if_pos h1] | rw [if_neg h1] | rw [if_pos g8] | rw [if_neg g8] | rw [if_pos h8] | rw [if_neg h8] | rw [if_neg (show ¬ true = false by decide)] | rw [if_pos (show false = false from rfl)] | dsimp only)); first | done | rfl) | rfl | (simp [cArm, bi, g1, h1, g8, h8]; done), by show va_P D vwCl (wC cA q N S ((cArm x z).2)) t.heap; rw [ht, e3]; exact hP⟩, hS.F ht⟩) hS.2.2 d_A_arm_12
set_option maxHeartbeats 4000000 in
set_option maxRecDepth 100000 in
theorem c_DualParityArray_crash (l : Launch) (D : va_G) (cA : ClassId) (q : Nat → Nat) (N S : Nat) (z : CS) (gN4 : 4 ≤ N) (gN : N ≤ 10) (gS1 : 1 ≤ S) (gS : S ≤ 16) : Met l y_A_crash w_A_crash ({ frames := 1, cells := 0, slots := 0, locals := 20 }) (va_Pc [.ref (q 0)] (k_Wc D [(cA, .int)] (wC cA q N S z))) (va_Qi (fun (r : Int32) (_ : Unit) => r = bi ((cCra z).1)) (fun _ t => va_P D vwCl (wC cA q N S ((cCra z).2)) t.heap) (k_A (wC cA q N S z))) 0 0 (k_A (wC cA q N S z)) := by
  refine Met.ofW (cc := b_A_crash) (maxL := 1) (ret := (some .boolean)) (by decide) rfl ?_
  intro p e s m args below meth c s₁ B hml hv
  obtain ⟨rfl, hP, hK, hD0⟩ := hv
  have hx := B.exec
  have hb := B.bytes
  have hr := B.returns
  have hts0 := atoms_spec (ws := w_A_crash) B.pre
  have hts : ∀ w ∈ lw_g, w.before _ s = true := fun w h => hts0 w (List.mem_cons_of_mem _ h)
  have hown : s.vm.findClass R_A = some m.cls := findClass_of_methodNamed B.named
  have hlocks := B.notSynchronized
  have hD := k_Dself hD0
  have hS : va_S (k_A (wC cA q N S z)) s.heap s.heap [] := va_S.rf
  have hl := lv_entry ([.ref (q 0)]) (n := 1) (Nat.le_of_ble_eq_true rfl)
  rw [lg_entry_eq]
  generalize (lg_sl ([.ref (q 0)]) ++ List.replicate (1 - (lg_sl ([.ref (q 0)])).length) Slot.unset).toArray = ls at hl ⊢
  have hl : lv_has ls 1 [(0, .ref (q 0))] := hl
  refine lv_aload_n hx hb d_A_crash_0 rfl (lv_at hl 0 rfl) ?_
  refine va_get (D := D) (ci := 3) (v := .int (cDn z)) (C := R_A) (T := T_A) (N := 11) hx hb hts (in_A) hown hK hP 0 rfl rfl 6 (by decide) (hts _ m_f_A_161) (fun _ h9 => h9) rfl d_A_crash_1 ?_
  refine lv_if_eq (tgt := 9) hx hb d_A_crash_4 rfl (fun g4 => ?_) (fun g4 => ?_)
  · refine lv_aload_n hx hb d_A_crash_9 rfl (lv_at hl 0 rfl) ?_
    refine k_wrv (va_runV (C := R_A) (As := []) (rest := []) ⟨hx, hb, hml, hown, hts⟩ (c_DualParityArray_stop l D cA q N S z (by omega) (by omega) (by omega) (by omega)) (k_cwV 0 hts m_code_A_stop m_ini_A m_l_A_165 m_inst_A_stop m_sel_A_stop h_A_stop rfl rfl ⟨Nat.le_of_ble_eq_true rfl, Nat.le_of_ble_eq_true rfl⟩) (k_pW hP hK hD [0, 1, 2, 3, 4, 5, 6, 7] (by decide) rfl 0 3 rfl rfl) rfl rfl hl.1 rfl (lv_room (Nat.le_of_ble_eq_true rfl)) d_A_crash_10 ⟨Nat.zero_le _, Nat.zero_le _⟩) hS hD [0, 1, 2, 3, 4, 5, 6, 7] rfl (fun u H1 locs _ hk hP1 hS => ?_)
    obtain ⟨u1, hu1⟩ : ∃ w, w = cStop z := ⟨_, rfl⟩
    have hP : va_P D vwCl (wC cA q N S u1) H1 := by rw [hu1]; exact hP1
    have hD : va_D (k_A (wC cA q N S z)) (wC cA q N S u1) := k_D hD rfl
    generalize H1 = H at hP hS ⊢
    refine lv_iconst (v := 1) hx hb d_A_crash_13 (by decide) ?_
    have e2 : (cCra z).2 = u1 := by subst hu1; first | ((try unfold cCra); (repeat (first | rw [if_pos g4] | rw [if_neg g4] | rw [if_neg (show ¬ true = false by decide)] | rw [if_pos (show false = false from rfl)] | dsimp only)); first | done | rfl) | rfl | (simp [cCra, bi, g4]; done)
    exact W.zret (v := 1) (ty := .boolean) hx hb hr (rfl) (fun t ht hW => ⟨⟨_, (), rfl, by subst hu1; first | ((try unfold cCra); (repeat (first | rw [if_pos g4] | rw [if_neg g4] | rw [if_neg (show ¬ true = false by decide)] | rw [if_pos (show false = false from rfl)] | dsimp only)); first | done | rfl) | rfl | (simp [cCra, bi, g4]; done), by show va_P D vwCl (wC cA q N S ((cCra z).2)) t.heap; rw [ht, e2]; exact hP⟩, hS.F ht⟩) hS.2.2 d_A_crash_14
  · refine lv_iconst (v := 0) hx hb d_A_crash_7 (by decide) ?_
    have e3 : (cCra z).2 = z := by first | ((try unfold cCra); (repeat (first | rw [if_pos g4] | rw [if_neg g4] | rw [if_neg (show ¬ true = false by decide)] | rw [if_pos (show false = false from rfl)] | dsimp only)); first | done | rfl) | rfl | (simp [cCra, bi, g4]; done)
    exact W.zret (v := 0) (ty := .boolean) hx hb hr (rfl) (fun t ht hW => ⟨⟨_, (), rfl, by first | ((try unfold cCra); (repeat (first | rw [if_pos g4] | rw [if_neg g4] | rw [if_neg (show ¬ true = false by decide)] | rw [if_pos (show false = false from rfl)] | dsimp only)); first | done | rfl) | rfl | (simp [cCra, bi, g4]; done), by show va_P D vwCl (wC cA q N S ((cCra z).2)) t.heap; rw [ht, e3]; exact hP⟩, hS.F ht⟩) hS.2.2 d_A_crash_8
set_option maxHeartbeats 4000000 in
set_option maxRecDepth 100000 in
theorem c_DualParityArray_restart (l : Launch) (D : va_G) (cA : ClassId) (q : Nat → Nat) (N S : Nat) (z : CS) (gN4 : 4 ≤ N) (gN : N ≤ 10) (gS1 : 1 ≤ S) (gS : S ≤ 16) (hLg : cLs z = -1 ∨ ∃ b, b < S ∧ cLs z = nI b) : Met l y_A_restart w_A_restart ({ frames := 4, cells := 0, slots := 0, locals := 86 }) (va_Pc [.ref (q 0)] (k_Wc D [(cA, .int)] (wC cA q N S z))) (va_Qi (fun (r : Int32) (_ : Unit) => r = (cRs N S z).1) (fun _ t => va_P D vwCl (wC cA q N S ((cRs N S z).2)) t.heap) (k_A (wC cA q N S z))) 0 0 (k_A (wC cA q N S z)) := by
  refine Met.ofW (cc := b_A_restart) (maxL := 1) (ret := (some .int)) (by decide) rfl ?_
  intro p e s m args below meth c s₁ B hml hv
  obtain ⟨rfl, hP, hK, hD0⟩ := hv
  have hx := B.exec
  have hb := B.bytes
  have hr := B.returns
  have hts0 := atoms_spec (ws := w_A_restart) B.pre
  have hts : ∀ w ∈ lw_g, w.before _ s = true := fun w h => hts0 w (List.mem_cons_of_mem _ h)
  have hown : s.vm.findClass R_A = some m.cls := findClass_of_methodNamed B.named
  have hlocks := B.notSynchronized
  have hD := k_Dself hD0
  have hS : va_S (k_A (wC cA q N S z)) s.heap s.heap [] := va_S.rf
  have hl := lv_entry ([.ref (q 0)]) (n := 1) (Nat.le_of_ble_eq_true rfl)
  rw [lg_entry_eq]
  generalize (lg_sl ([.ref (q 0)]) ++ List.replicate (1 - (lg_sl ([.ref (q 0)])).length) Slot.unset).toArray = ls at hl ⊢
  have hl : lv_has ls 1 [(0, .ref (q 0))] := hl
  refine lv_aload_n hx hb d_A_restart_0 rfl (lv_at hl 0 rfl) ?_
  refine va_get (D := D) (ci := 3) (v := .int (cDn z)) (C := R_A) (T := T_A) (N := 11) hx hb hts (in_A) hown hK hP 0 rfl rfl 6 (by decide) (hts _ m_f_A_161) (fun _ h9 => h9) rfl d_A_restart_1 ?_
  refine lv_if_ne (tgt := 10) hx hb d_A_restart_4 rfl (fun g4 => ?_) (fun g4 => ?_)
  · refine lv_aload_n hx hb d_A_restart_10 rfl (lv_at hl 0 rfl) ?_
    refine va_get (D := D) (ci := 3) (v := .ref (q 1)) (C := R_A) (T := T_A) (N := 11) hx hb hts (in_A) hown hK hP 0 rfl rfl 2 (by decide) (hts _ m_f_A_25) (fun _ h9 => h9) rfl d_A_restart_11 ?_
    refine k_roi (va_runV (C := R_D) (As := []) (rest := []) ⟨hx, hb, hml, hown, hts⟩ (c_Disks_broken l D cA (q 1) (q 2) (q 3) N S (cW z) (cP z) (by omega) (by omega) (by omega) (by omega)) (k_cwV 0 hts m_code_D_broken m_ini_D m_l_A_168 m_inst_D_broken m_sel_D_broken h_D_broken rfl rfl ⟨Nat.le_of_ble_eq_true rfl, Nat.le_of_ble_eq_true rfl⟩) (k_pR hP hK [1, 2, 3] rfl 1 0 rfl rfl) rfl rfl hl.1 rfl (lv_room (Nat.le_of_ble_eq_true rfl)) d_A_restart_14 ⟨Nat.zero_le _, Nat.zero_le _⟩) ?_
    refine lv_if_eq (tgt := 23) hx hb d_A_restart_17 rfl (fun g17 => ?_) (fun g17 => ?_)
    · have h17 := of_decide_eq_false (bi_z.mp g17)
      refine lv_aload_n hx hb d_A_restart_23 rfl (lv_at hl 0 rfl) ?_
      refine lv_iconst (v := 0) hx hb d_A_restart_24 (by decide) ?_
      refine va_put (D := D) (ci := 3) (v := .int 0) (ty := .int) (C := R_A) (T := T_A) (N := 11) hx hb hts (in_A) ty_A tyok_A nm_A hown hK hP hD hS 0 rfl rfl 8 (by decide) (hts _ m_f_A_92) (fun _ h9 => h9) rfl (by decide +kernel) rfl rfl (Nat.le_of_ble_eq_true rfl) d_A_restart_25 (fun H locs hP hD hS => ?_)
      have hP : va_P D vwCl (wC cA q N S (sMd z 0)) H := hP
      have hD : va_D (k_A (wC cA q N S z)) (wC cA q N S (sMd z 0)) := hD
      refine lv_aload_n hx hb d_A_restart_28 rfl (lv_at hl 0 rfl) ?_
      refine va_get (D := D) (ci := 3) (v := .ref (q 6)) (C := R_A) (T := T_A) (N := 11) hx hb hts (in_A) hown hK hP 0 rfl rfl 3 (by decide) (hts _ m_f_A_34) (fun _ h9 => h9) rfl d_A_restart_29 ?_
      refine k_roi (va_runV (C := R_L) (As := []) (rest := []) ⟨hx, hb, hml, hown, hts⟩ (c_Log_holdsEntry l D cA (q 6) (q 7) N (cLs (sMd z 0)) (cLf (sMd z 0)) (cLc (sMd z 0)) (cX (sMd z 0)) (by omega) (by omega)) (k_cwV 0 hts m_code_L_holdsEntry m_ini_L m_l_A_171 m_inst_L_holdsEntry m_sel_L_holdsEntry h_L_holdsEntry rfl rfl ⟨Nat.le_of_ble_eq_true rfl, Nat.le_of_ble_eq_true rfl⟩) (k_pR hP hK [6, 7] rfl 6 1 rfl rfl) rfl rfl hl.1 rfl (lv_room (Nat.le_of_ble_eq_true rfl)) d_A_restart_32 ⟨Nat.zero_le _, Nat.zero_le _⟩) ?_
      refine lv_if_eq (tgt := 48) hx hb d_A_restart_35 rfl (fun g35 => ?_) (fun g35 => ?_)
      · have h35 := of_decide_eq_false (bi_z.mp g35)
        have k35 : cLs (sMd z 0) = -1 := Classical.not_not.mp h35
        refine lv_aload_n hx hb d_A_restart_48 rfl (lv_at hl 0 rfl) ?_
        refine lv_iconst (v := 0) hx hb d_A_restart_49 (by decide) ?_
        refine va_put (D := D) (ci := 3) (v := .int 0) (ty := .boolean) (C := R_A) (T := T_A) (N := 11) hx hb hts (in_A) ty_A tyok_A nm_A hown hK hP hD hS 0 rfl rfl 6 (by decide) (hts _ m_f_A_161) (fun _ h9 => h9) rfl (by decide +kernel) rfl rfl (Nat.le_of_ble_eq_true rfl) d_A_restart_50 (fun H locs hP hD hS => ?_)
        have hP : va_P D vwCl (wC cA q N S (sDn (sMd z 0) 0)) H := hP
        have hD : va_D (k_A (wC cA q N S z)) (wC cA q N S (sDn (sMd z 0) 0)) := hD
        refine lv_aload_n hx hb d_A_restart_53 rfl (lv_at hl 0 rfl) ?_
        refine va_get (D := D) (ci := 3) (v := .int (cMd (sDn (sMd z 0) 0))) (C := R_A) (T := T_A) (N := 11) hx hb hts (in_A) hown hK hP 0 rfl rfl 8 (by decide) (hts _ m_f_A_92) (fun _ h9 => h9) rfl d_A_restart_54 ?_
        have e1 : (cRs N S z).2 = sDn (sMd z 0) 0 := by first | ((try unfold cRs); (try unfold cRs1); (repeat (first | rw [if_pos g4] | rw [if_neg g4] | rw [if_pos g17] | rw [if_neg g17] | rw [if_pos h17] | rw [if_neg h17] | rw [if_pos g35] | rw [if_neg g35] | rw [if_pos h35] | rw [if_neg h35] | rw [if_pos k35] | rw [if_neg k35] | rw [if_neg (show ¬ true = false by decide)] | rw [if_pos (show false = false from rfl)] | dsimp only)); first | done | rfl) | rfl | (simp [cRs, cRs1, g4, g17, h17, g35, h35, k35]; done)
        exact W.iret (v := cMd (sDn (sMd z 0) 0)) hx hb hr (fun t ht hW => ⟨⟨_, (), rfl, by first | ((try unfold cRs); (try unfold cRs1); (repeat (first | rw [if_pos g4] | rw [if_neg g4] | rw [if_pos g17] | rw [if_neg g17] | rw [if_pos h17] | rw [if_neg h17] | rw [if_pos g35] | rw [if_neg g35] | rw [if_pos h35] | rw [if_neg h35] | rw [if_pos k35] | rw [if_neg k35] | rw [if_neg (show ¬ true = false by decide)] | rw [if_pos (show false = false from rfl)] | dsimp only)); first | done | rfl) | rfl | (simp [cRs, cRs1, g4, g17, h17, g35, h35, k35]; done), by show va_P D vwCl (wC cA q N S ((cRs N S z).2)) t.heap; rw [ht, e1]; exact hP⟩, hS.F ht⟩) hS.2.2 d_A_restart_57
      · have h35 := of_decide_eq_true (bi_nz.mp g35)
        obtain ⟨hb1, hb2⟩ := rs_b gS hLg h35
        refine lv_aload_n hx hb d_A_restart_38 rfl (lv_at hl 0 rfl) ?_
        refine k_wri (va_runV (C := R_A) (As := []) (rest := []) ⟨hx, hb, hml, hown, hts⟩ (c_DualParityArray_carryOutEntry l D cA q N S (sMd z 0) (by omega) (by omega) (by omega) (by omega) (tn (cLs (sMd z 0))) (by exact hb1) (by exact hb2)) (k_cwV 0 hts m_code_A_carryOutEntry m_ini_A m_l_A_174 m_inst_A_carryOutEntry m_sel_A_carryOutEntry h_A_carryOutEntry rfl rfl ⟨Nat.le_of_ble_eq_true rfl, Nat.le_of_ble_eq_true rfl⟩) (k_pW hP hK hD [0, 1, 2, 3, 4, 5, 6, 7] (by decide) rfl 0 3 rfl rfl) rfl rfl hl.1 rfl (lv_room (Nat.le_of_ble_eq_true rfl)) d_A_restart_39 ⟨Nat.zero_le _, Nat.zero_le _⟩) hS hD [0, 1, 2, 3, 4, 5, 6, 7] rfl (fun r u H1 locs hp hk hP1 hS => ?_)
        subst hp
        obtain ⟨u2, hu2⟩ : ∃ w, w = (cCar N S (tn (cLs (sMd z 0))) (sMd z 0)).2 := ⟨_, rfl⟩
        have hP : va_P D vwCl (wC cA q N S u2) H1 := by rw [hu2]; exact hP1
        have hD : va_D (k_A (wC cA q N S z)) (wC cA q N S u2) := k_D hD rfl
        generalize H1 = H at hP hS ⊢
        refine lv_if_ne (tgt := 48) hx hb d_A_restart_42 rfl (fun g42 => ?_) (fun g42 => ?_)
        · have h42 := bi_nz.mp g42
          refine lv_aload_n hx hb d_A_restart_48 rfl (lv_at hl 0 rfl) ?_
          refine lv_iconst (v := 0) hx hb d_A_restart_49 (by decide) ?_
          refine va_put (D := D) (ci := 3) (v := .int 0) (ty := .boolean) (C := R_A) (T := T_A) (N := 11) hx hb hts (in_A) ty_A tyok_A nm_A hown hK hP hD hS 0 rfl rfl 6 (by decide) (hts _ m_f_A_161) (fun _ h9 => h9) rfl (by decide +kernel) rfl rfl (Nat.le_of_ble_eq_true rfl) d_A_restart_50 (fun H locs hP hD hS => ?_)
          have hP : va_P D vwCl (wC cA q N S (sDn u2 0)) H := hP
          have hD : va_D (k_A (wC cA q N S z)) (wC cA q N S (sDn u2 0)) := hD
          refine lv_aload_n hx hb d_A_restart_53 rfl (lv_at hl 0 rfl) ?_
          refine va_get (D := D) (ci := 3) (v := .int (cMd (sDn u2 0))) (C := R_A) (T := T_A) (N := 11) hx hb hts (in_A) hown hK hP 0 rfl rfl 8 (by decide) (hts _ m_f_A_92) (fun _ h9 => h9) rfl d_A_restart_54 ?_
          have e3 : (cRs N S z).2 = sDn u2 0 := by subst hu2; first | ((try unfold cRs); (try unfold cRs1); (repeat (first | rw [if_pos g4] | rw [if_neg g4] | rw [if_pos g17] | rw [if_neg g17] | rw [if_pos h17] | rw [if_neg h17] | rw [if_pos g35] | rw [if_neg g35] | rw [if_pos h35] | rw [if_neg h35] | rw [if_pos g42] | rw [if_neg g42] | rw [if_pos h42] | rw [if_neg h42] | rw [if_neg (show ¬ true = false by decide)] | rw [if_pos (show false = false from rfl)] | dsimp only)); first | done | rfl) | rfl | (simp [cRs, cRs1, g4, g17, h17, g35, h35, g42, h42]; done)
          exact W.iret (v := cMd (sDn u2 0)) hx hb hr (fun t ht hW => ⟨⟨_, (), rfl, by subst hu2; first | ((try unfold cRs); (try unfold cRs1); (repeat (first | rw [if_pos g4] | rw [if_neg g4] | rw [if_pos g17] | rw [if_neg g17] | rw [if_pos h17] | rw [if_neg h17] | rw [if_pos g35] | rw [if_neg g35] | rw [if_pos h35] | rw [if_neg h35] | rw [if_pos g42] | rw [if_neg g42] | rw [if_pos h42] | rw [if_neg h42] | rw [if_neg (show ¬ true = false by decide)] | rw [if_pos (show false = false from rfl)] | dsimp only)); first | done | rfl) | rfl | (simp [cRs, cRs1, g4, g17, h17, g35, h35, g42, h42]; done), by show va_P D vwCl (wC cA q N S ((cRs N S z).2)) t.heap; rw [ht, e3]; exact hP⟩, hS.F ht⟩) hS.2.2 d_A_restart_57
        · have h42 := bi_z.mp g42
          refine lv_bipush (v := (-4)) hx hb d_A_restart_45 (by decide) ?_
          have e4 : (cRs N S z).2 = u2 := by subst hu2; first | ((try unfold cRs); (try unfold cRs1); (repeat (first | rw [if_pos g4] | rw [if_neg g4] | rw [if_pos g17] | rw [if_neg g17] | rw [if_pos h17] | rw [if_neg h17] | rw [if_pos g35] | rw [if_neg g35] | rw [if_pos h35] | rw [if_neg h35] | rw [if_pos g42] | rw [if_neg g42] | rw [if_pos h42] | rw [if_neg h42] | rw [if_neg (show ¬ true = false by decide)] | rw [if_pos (show false = false from rfl)] | dsimp only)); first | done | rfl) | rfl | (simp [cRs, cRs1, g4, g17, h17, g35, h35, g42, h42]; done)
          exact W.iret (v := (-4)) hx hb hr (fun t ht hW => ⟨⟨_, (), rfl, by subst hu2; first | ((try unfold cRs); (try unfold cRs1); (repeat (first | rw [if_pos g4] | rw [if_neg g4] | rw [if_pos g17] | rw [if_neg g17] | rw [if_pos h17] | rw [if_neg h17] | rw [if_pos g35] | rw [if_neg g35] | rw [if_pos h35] | rw [if_neg h35] | rw [if_pos g42] | rw [if_neg g42] | rw [if_pos h42] | rw [if_neg h42] | rw [if_neg (show ¬ true = false by decide)] | rw [if_pos (show false = false from rfl)] | dsimp only)); first | done | rfl) | rfl | (simp [cRs, cRs1, g4, g17, h17, g35, h35, g42, h42]; done), by show va_P D vwCl (wC cA q N S ((cRs N S z).2)) t.heap; rw [ht, e4]; exact hP⟩, hS.F ht⟩) hS.2.2 d_A_restart_47
    · have h17 := of_decide_eq_true (bi_nz.mp g17)
      refine lv_bipush (v := (-3)) hx hb d_A_restart_20 (by decide) ?_
      have e5 : (cRs N S z).2 = z := by first | ((try unfold cRs); (try unfold cRs1); (repeat (first | rw [if_pos g4] | rw [if_neg g4] | rw [if_pos g17] | rw [if_neg g17] | rw [if_pos h17] | rw [if_neg h17] | rw [if_neg (show ¬ true = false by decide)] | rw [if_pos (show false = false from rfl)] | dsimp only)); first | done | rfl) | rfl | (simp [cRs, cRs1, g4, g17, h17]; done)
      exact W.iret (v := (-3)) hx hb hr (fun t ht hW => ⟨⟨_, (), rfl, by first | ((try unfold cRs); (try unfold cRs1); (repeat (first | rw [if_pos g4] | rw [if_neg g4] | rw [if_pos g17] | rw [if_neg g17] | rw [if_pos h17] | rw [if_neg h17] | rw [if_neg (show ¬ true = false by decide)] | rw [if_pos (show false = false from rfl)] | dsimp only)); first | done | rfl) | rfl | (simp [cRs, cRs1, g4, g17, h17]; done), by show va_P D vwCl (wC cA q N S ((cRs N S z).2)) t.heap; rw [ht, e5]; exact hP⟩, hS.F ht⟩) hS.2.2 d_A_restart_22
  · refine lv_bipush (v := (-8)) hx hb d_A_restart_7 (by decide) ?_
    have e6 : (cRs N S z).2 = z := by first | ((try unfold cRs); (try unfold cRs1); (repeat (first | rw [if_pos g4] | rw [if_neg g4] | rw [if_neg (show ¬ true = false by decide)] | rw [if_pos (show false = false from rfl)] | dsimp only)); first | done | rfl) | rfl | (simp [cRs, cRs1, g4]; done)
    exact W.iret (v := (-8)) hx hb hr (fun t ht hW => ⟨⟨_, (), rfl, by first | ((try unfold cRs); (try unfold cRs1); (repeat (first | rw [if_pos g4] | rw [if_neg g4] | rw [if_neg (show ¬ true = false by decide)] | rw [if_pos (show false = false from rfl)] | dsimp only)); first | done | rfl) | rfl | (simp [cRs, cRs1, g4]; done), by show va_P D vwCl (wC cA q N S ((cRs N S z).2)) t.heap; rw [ht, e6]; exact hP⟩, hS.F ht⟩) hS.2.2 d_A_restart_9
set_option maxHeartbeats 4000000 in
set_option maxRecDepth 100000 in
theorem c_DualParityArray_faults (l : Launch) (D : va_G) (cA : ClassId) (q : Nat → Nat) (N S : Nat) (z : CS) (gN4 : 4 ≤ N) (gN : N ≤ 10) (gS1 : 1 ≤ S) (gS : S ≤ 16) : Met l y_A_faults w_A_faults ({ frames := 4, cells := 0, slots := 0, locals := 97 }) (va_Pc [.ref (q 0)] (k_WT D [(cA, .int)] (wC cA q N S z))) (va_Qi (fun (r : Int32) (_ : Unit) => r = (cFa N S z).1) (fun _ t => va_P D vwCl (wC cA q N S ((cFa N S z).2)) t.heap) (k_A (wC cA q N S z))) 0 0 (k_A (wC cA q N S z)) := by
  refine Met.ofW (cc := b_A_faults) (maxL := 3) (ret := (some .int)) (by decide) rfl ?_
  intro p e s m args below meth c s₁ B hml hv
  obtain ⟨rfl, hP, hK, hD0, hTb⟩ := hv
  have hx := B.exec
  have hb := B.bytes
  have hr := B.returns
  have hts0 := atoms_spec (ws := w_A_faults) B.pre
  have hts : ∀ w ∈ lw_g, w.before _ s = true := fun w h => hts0 w (List.mem_cons_of_mem _ h)
  have hown : s.vm.findClass R_A = some m.cls := findClass_of_methodNamed B.named
  have hlocks := B.notSynchronized
  have hD := k_Dself hD0
  have hS : va_S (k_A (wC cA q N S z)) s.heap s.heap [] := va_S.rf
  have hl := lv_entry ([.ref (q 0)]) (n := 3) (Nat.le_of_ble_eq_true rfl)
  rw [lg_entry_eq]
  generalize (lg_sl ([.ref (q 0)]) ++ List.replicate (3 - (lg_sl ([.ref (q 0)])).length) Slot.unset).toArray = ls at hl ⊢
  have hl : lv_has ls 3 [(0, .ref (q 0))] := hl
  refine lv_aload_n hx hb d_A_faults_0 rfl (lv_at hl 0 rfl) ?_
  refine va_get (D := D) (ci := 3) (v := .ref (q 1)) (C := R_A) (T := T_A) (N := 11) hx hb hts (in_A) hown hK hP 0 rfl rfl 2 (by decide) (hts _ m_f_A_25) (fun _ h9 => h9) rfl d_A_faults_1 ?_
  refine k_roi (va_runV (C := R_D) (As := []) (rest := []) ⟨hx, hb, hml, hown, hts⟩ (c_Disks_broken l D cA (q 1) (q 2) (q 3) N S (cW z) (cP z) (by omega) (by omega) (by omega) (by omega)) (k_cwV 0 hts m_code_D_broken m_ini_D m_l_A_168 m_inst_D_broken m_sel_D_broken h_D_broken rfl rfl ⟨Nat.le_of_ble_eq_true rfl, Nat.le_of_ble_eq_true rfl⟩) (k_pR hP hK [1, 2, 3] rfl 1 0 rfl rfl) rfl rfl hl.1 rfl (lv_room (Nat.le_of_ble_eq_true rfl)) d_A_faults_4 ⟨Nat.zero_le _, Nat.zero_le _⟩) ?_
  refine lv_if_eq (tgt := 13) hx hb d_A_faults_7 rfl (fun g7 => ?_) (fun g7 => ?_)
  · have h7 := of_decide_eq_false (bi_z.mp g7)
    refine lv_iconst (v := 0) hx hb d_A_faults_13 (by decide) ?_
    refine lv_istore_n (lv' := [(1, .int 0), (0, .ref (q 0))]) hx hb d_A_faults_14 rfl hl (by decide) rfl (fun ls hl => ?_)
    refine lv_iconst (v := 0) hx hb d_A_faults_15 (by decide) ?_
    refine lv_istore_n (lv' := [(2, .int 0), (1, .int 0), (0, .ref (q 0))]) hx hb d_A_faults_16 rfl hl (by decide) rfl (fun ls hl => ?_)
    have L17 : ∀ (k : Nat) (i : Nat) (ls : Array Slot) (H : Heap) (locs : List Loc), i + k = S → lv_has ls 3 [(0, .ref (q 0)), (1, .int (nI ((cFaL N S z i).1))), (2, .int (nI i))] → va_P D vwCl (wC cA q N S ((cFaL N S z i).2)) H → va_S (k_A (wC cA q N S z)) s.heap H locs → W p l e (headSpec w_A_faults ({ frames := 4, cells := 0, slots := 0, locals := 97 })).room s m ([.ref (q 0)] : List Value).toArray below meth c H locs 0 0 (MQ below (va_Qi (fun (r : Int32) (_ : Unit) => r = (cFa N S z).1) (fun _ t => va_P D vwCl (wC cA q N S ((cFa N S z).2)) t.heap) (k_A (wC cA q N S z))) ([.ref (q 0)] : List Value).toArray s 0 0 (k_A (wC cA q N S z))) (F0 m 17 ls []) := by
      intro k
      induction k with
      | zero =>
        intro i ls H locs hk hl hP hS
        have hD := k_D (ws' := wC cA q N S ((cFaL N S z i).2)) hD rfl
        obtain rfl : S = i := by omega
        refine lv_iload_n hx hb d_A_faults_17 rfl (lv_at hl 2 rfl) ?_
        refine lv_aload_n hx hb d_A_faults_18 rfl (lv_at hl 0 rfl) ?_
        refine va_get (D := D) (ci := 3) (v := .int (nI S)) (C := R_A) (T := T_A) (N := 11) hx hb hts (in_A) hown hK hP 0 rfl rfl 0 (by decide) (hts _ m_f_A_13) (fun _ h9 => h9) rfl d_A_faults_19 ?_
        refine lv_icmp_ge (tgt := 56) hx hb d_A_faults_22 rfl (fun g22 => ?_) (fun g22 => ?_)
        · have h22 : S ≤ S := (nI_leI (a := S) (b := S) (by omega) (by omega)).mp g22
          have k22 : ¬ S < S := by omega
          refine lv_iload_n hx hb d_A_faults_56 rfl (lv_at hl 1 rfl) ?_
          have e1 : (cFa N S z).2 = (cFaL N S z S).2 := by first | ((try unfold cFa); (repeat (first | rw [if_pos g7] | rw [if_neg g7] | rw [if_pos h7] | rw [if_neg h7] | rw [if_pos g22] | rw [if_neg g22] | rw [if_pos h22] | rw [if_neg h22] | rw [if_pos k22] | rw [if_neg k22] | rw [if_neg (show ¬ true = false by decide)] | rw [if_pos (show false = false from rfl)] | dsimp only)); first | done | rfl) | rfl | (simp [cFa, cFaL, g7, h7, g22, h22, k22]; done)
          exact W.iret (v := nI ((cFaL N S z S).1)) hx hb hr (fun t ht hW => ⟨⟨_, (), rfl, by first | ((try unfold cFa); (repeat (first | rw [if_pos g7] | rw [if_neg g7] | rw [if_pos h7] | rw [if_neg h7] | rw [if_pos g22] | rw [if_neg g22] | rw [if_pos h22] | rw [if_neg h22] | rw [if_pos k22] | rw [if_neg k22] | rw [if_neg (show ¬ true = false by decide)] | rw [if_pos (show false = false from rfl)] | dsimp only)); first | done | rfl) | rfl | (simp [cFa, cFaL, g7, h7, g22, h22, k22]; done), by show va_P D vwCl (wC cA q N S ((cFa N S z).2)) t.heap; rw [ht, e1]; exact hP⟩, hS.F ht⟩) hS.2.2 d_A_faults_57
        · have h22 : ¬ S ≤ S := fun z => g22 ((nI_leI (a := S) (b := S) (by omega) (by omega)).mpr z)
          have k22 : S < S := by omega
          exfalso; omega
      | succ k ih =>
        intro i ls H locs hk hl hP hS
        have hD := k_D (ws' := wC cA q N S ((cFaL N S z i).2)) hD rfl
        refine lv_iload_n hx hb d_A_faults_17 rfl (lv_at hl 2 rfl) ?_
        refine lv_aload_n hx hb d_A_faults_18 rfl (lv_at hl 0 rfl) ?_
        refine va_get (D := D) (ci := 3) (v := .int (nI S)) (C := R_A) (T := T_A) (N := 11) hx hb hts (in_A) hown hK hP 0 rfl rfl 0 (by decide) (hts _ m_f_A_13) (fun _ h9 => h9) rfl d_A_faults_19 ?_
        refine lv_icmp_ge (tgt := 56) hx hb d_A_faults_22 rfl (fun g22 => ?_) (fun g22 => ?_)
        · have h22 : S ≤ i := (nI_leI (a := S) (b := i) (by omega) (by omega)).mp g22
          have k22 : ¬ i < S := by omega
          exfalso; omega
        · have h22 : ¬ S ≤ i := fun z => g22 ((nI_leI (a := S) (b := i) (by omega) (by omega)).mpr z)
          have k22 : i < S := by omega
          refine lv_aload_n hx hb d_A_faults_25 rfl (lv_at hl 0 rfl) ?_
          refine va_get (D := D) (ci := 3) (v := .ref (q 4)) (C := R_A) (T := T_A) (N := 11) hx hb hts (in_A) hown hK hP 0 rfl rfl 4 (by decide) (hts _ m_f_A_41) (fun _ h9 => h9) rfl d_A_faults_26 ?_
          refine lv_aload_n hx hb d_A_faults_29 rfl (lv_at hl 0 rfl) ?_
          refine va_get (D := D) (ci := 3) (v := .ref (q 1)) (C := R_A) (T := T_A) (N := 11) hx hb hts (in_A) hown hK hP 0 rfl rfl 2 (by decide) (hts _ m_f_A_25) (fun _ h9 => h9) rfl d_A_faults_30 ?_
          refine lv_iload_n hx hb d_A_faults_33 rfl (lv_at hl 2 rfl) ?_
          refine k_wrv (va_runV (C := R_S) (As := [.ref (q 1), .int (nI i)]) (rest := []) ⟨hx, hb, hml, hown, hts⟩ (c_Stripe_load l D cA (q 1) (q 2) (q 3) N S (cW ((cFaL N S z i).2)) (cP ((cFaL N S z i).2)) (q 4) (q 5) (cV ((cFaL N S z i).2)) (by omega) (by omega) (by omega) (by omega) i (by omega)) (k_cwV 2 hts m_code_S_load m_ini_S m_l_A_177 m_inst_S_load m_sel_S_load h_S_load rfl rfl ⟨Nat.le_of_ble_eq_true rfl, Nat.le_of_ble_eq_true rfl⟩) (k_pT hP hK hD hTb hS [1, 2, 3, 4, 5] (by decide) rfl 4 2 rfl rfl) rfl rfl hl.1 rfl (lv_room (Nat.le_of_ble_eq_true rfl)) d_A_faults_34 ⟨Nat.zero_le _, Nat.zero_le _⟩) hS hD [1, 2, 3, 4, 5] rfl (fun u H1 locs _ hk hP1 hS => ?_)
          have hP : va_P D vwCl (wC cA q N S (sV ((cFaL N S z i).2) (ldV N S i (cW ((cFaL N S z i).2)) (cP ((cFaL N S z i).2)) (cV ((cFaL N S z i).2))))) H1 := k_bk hP hD [1, 2, 3, 4, 5] [0, 6, 7] rfl (by decide) hk hP1 [0, 3, 4, 5, 6, 7, 1, 2] rfl
          have hD : va_D (k_A (wC cA q N S z)) (wC cA q N S (sV ((cFaL N S z i).2) (ldV N S i (cW ((cFaL N S z i).2)) (cP ((cFaL N S z i).2)) (cV ((cFaL N S z i).2))))) := k_D hD rfl
          generalize H1 = H at hP hS ⊢
          refine lv_aload_n hx hb d_A_faults_37 rfl (lv_at hl 0 rfl) ?_
          refine va_get (D := D) (ci := 3) (v := .ref (q 4)) (C := R_A) (T := T_A) (N := 11) hx hb hts (in_A) hown hK hP 0 rfl rfl 4 (by decide) (hts _ m_f_A_41) (fun _ h9 => h9) rfl d_A_faults_38 ?_
          refine k_roi (va_runV (C := R_S) (As := []) (rest := []) ⟨hx, hb, hml, hown, hts⟩ (c_Stripe_meetsBothEquations l D cA (q 4) (q 5) N (cV (sV ((cFaL N S z i).2) (ldV N S i (cW ((cFaL N S z i).2)) (cP ((cFaL N S z i).2)) (cV ((cFaL N S z i).2))))) (by omega) (by omega)) (k_cwV 0 hts m_code_S_meetsBothEquations m_ini_S m_l_A_145 m_inst_S_meetsBothEquations m_sel_S_meetsBothEquations h_S_meetsBothEquations rfl rfl ⟨Nat.le_of_ble_eq_true rfl, Nat.le_of_ble_eq_true rfl⟩) (k_pR hP hK [4, 5] rfl 4 2 rfl rfl) rfl rfl hl.1 rfl (lv_room (Nat.le_of_ble_eq_true rfl)) d_A_faults_41 ⟨Nat.zero_le _, Nat.zero_le _⟩) ?_
          refine lv_if_ne (tgt := 50) hx hb d_A_faults_44 rfl (fun g44 => ?_) (fun g44 => ?_)
          · have h44 := of_decide_eq_true (bi_nz.mp g44)
            refine lv_iinc (k := 2) (v := nI (i + 1)) (lv' := [(2, .int (nI (i + 1))), (0, .ref (q 0)), (1, .int (nI ((cFaL N S z i).1)))]) hx hb d_A_faults_50 hl rfl (nI_add i 1) (by decide) rfl (fun ls hl => ?_)
            refine lv_goto hx hb d_A_faults_53 rfl ?_
            have e2 : nI ((cFaL N S z (i + 1)).1) = nI ((cFaL N S z i).1) := by first | rfl | (congr 1; show (if fg N (cV (cLd N S i (cFaL N S z i).2)) = 0 ∧ sg N (cV (cLd N S i (cFaL N S z i).2)) = 0 then (cFaL N S z i).1 else (cFaL N S z i).1 + 1) = _; first | exact if_pos h44 | exact if_neg h44)
            have e3 : (cFaL N S z (i + 1)).2 = sV ((cFaL N S z i).2) (ldV N S i (cW ((cFaL N S z i).2)) (cP ((cFaL N S z i).2)) (cV ((cFaL N S z i).2))) := by first | ((try unfold cFa); (repeat (first | rw [if_pos g7] | rw [if_neg g7] | rw [if_pos h7] | rw [if_neg h7] | rw [if_pos g22] | rw [if_neg g22] | rw [if_pos h22] | rw [if_neg h22] | rw [if_pos k22] | rw [if_neg k22] | rw [if_pos g44] | rw [if_neg g44] | rw [if_pos h44] | rw [if_neg h44] | rw [if_neg (show ¬ true = false by decide)] | rw [if_pos (show false = false from rfl)] | dsimp only)); first | done | rfl) | rfl | (simp [cFa, cFaL, g7, h7, g22, h22, k22, g44, h44]; done)
            exact ih (i + 1) ls H locs (by omega) (by rw [e2]; exact lv_sub hl [1, 2, 0] rfl) (by rw [e3]; exact hP) hS
          · have h44 := of_decide_eq_false (bi_z.mp g44)
            refine lv_iinc (k := 1) (v := nI ((cFaL N S z i).1 + 1)) (lv' := [(1, .int (nI ((cFaL N S z i).1 + 1))), (0, .ref (q 0)), (2, .int (nI i))]) hx hb d_A_faults_47 hl rfl (nI_add ((cFaL N S z i).1) 1) (by decide) rfl (fun ls hl => ?_)
            refine lv_iinc (k := 2) (v := nI (i + 1)) (lv' := [(2, .int (nI (i + 1))), (1, .int (nI ((cFaL N S z i).1 + 1))), (0, .ref (q 0))]) hx hb d_A_faults_50 hl rfl (nI_add i 1) (by decide) rfl (fun ls hl => ?_)
            refine lv_goto hx hb d_A_faults_53 rfl ?_
            have e4 : nI ((cFaL N S z (i + 1)).1) = nI ((cFaL N S z i).1 + 1) := by first | rfl | (congr 1; show (if fg N (cV (cLd N S i (cFaL N S z i).2)) = 0 ∧ sg N (cV (cLd N S i (cFaL N S z i).2)) = 0 then (cFaL N S z i).1 else (cFaL N S z i).1 + 1) = _; first | exact if_pos h44 | exact if_neg h44)
            have e5 : (cFaL N S z (i + 1)).2 = sV ((cFaL N S z i).2) (ldV N S i (cW ((cFaL N S z i).2)) (cP ((cFaL N S z i).2)) (cV ((cFaL N S z i).2))) := by first | ((try unfold cFa); (repeat (first | rw [if_pos g7] | rw [if_neg g7] | rw [if_pos h7] | rw [if_neg h7] | rw [if_pos g22] | rw [if_neg g22] | rw [if_pos h22] | rw [if_neg h22] | rw [if_pos k22] | rw [if_neg k22] | rw [if_pos g44] | rw [if_neg g44] | rw [if_pos h44] | rw [if_neg h44] | rw [if_neg (show ¬ true = false by decide)] | rw [if_pos (show false = false from rfl)] | dsimp only)); first | done | rfl) | rfl | (simp [cFa, cFaL, g7, h7, g22, h22, k22, g44, h44]; done)
            exact ih (i + 1) ls H locs (by omega) (by rw [e4]; exact lv_sub hl [2, 1, 0] rfl) (by rw [e5]; exact hP) hS
    have e6 : nI ((cFaL N S z 0).1) = 0 := by first | rfl | (congr 1; show (if fg N (cV (cLd N S i (cFaL N S z i).2)) = 0 ∧ sg N (cV (cLd N S i (cFaL N S z i).2)) = 0 then (cFaL N S z i).1 else (cFaL N S z i).1 + 1) = _; first | exact if_pos h44 | exact if_neg h44)
    have e7 : nI 0 = 0 := by first | ((try unfold cFa); (repeat (first | rw [if_pos g7] | rw [if_neg g7] | rw [if_pos h7] | rw [if_neg h7] | rw [if_neg (show ¬ true = false by decide)] | rw [if_pos (show false = false from rfl)] | dsimp only)); first | done | rfl) | rfl | (simp [cFa, cFaL, g7, h7]; done)
    have e8 : (cFaL N S z 0).2 = z := by first | ((try unfold cFa); (repeat (first | rw [if_pos g7] | rw [if_neg g7] | rw [if_pos h7] | rw [if_neg h7] | rw [if_neg (show ¬ true = false by decide)] | rw [if_pos (show false = false from rfl)] | dsimp only)); first | done | rfl) | rfl | (simp [cFa, cFaL, g7, h7]; done)
    exact L17 S 0 ls s.heap [] (by omega) (by rw [e6, e7]; exact lv_sub hl [2, 1, 0] rfl) (by rw [e8]; exact hP) hS
  · have h7 := of_decide_eq_true (bi_nz.mp g7)
    refine lv_bipush (v := (-3)) hx hb d_A_faults_10 (by decide) ?_
    have e9 : (cFa N S z).2 = z := by first | ((try unfold cFa); (repeat (first | rw [if_pos g7] | rw [if_neg g7] | rw [if_pos h7] | rw [if_neg h7] | rw [if_neg (show ¬ true = false by decide)] | rw [if_pos (show false = false from rfl)] | dsimp only)); first | done | rfl) | rfl | (simp [cFa, cFaL, g7, h7]; done)
    exact W.iret (v := (-3)) hx hb hr (fun t ht hW => ⟨⟨_, (), rfl, by first | ((try unfold cFa); (repeat (first | rw [if_pos g7] | rw [if_neg g7] | rw [if_pos h7] | rw [if_neg h7] | rw [if_neg (show ¬ true = false by decide)] | rw [if_pos (show false = false from rfl)] | dsimp only)); first | done | rfl) | rfl | (simp [cFa, cFaL, g7, h7]; done), by show va_P D vwCl (wC cA q N S ((cFa N S z).2)) t.heap; rw [ht, e9]; exact hP⟩, hS.F ht⟩) hS.2.2 d_A_faults_12
set_option maxHeartbeats 4000000 in
set_option maxRecDepth 100000 in
theorem c_DualParityArray_peek (l : Launch) (D : va_G) (cA : ClassId) (q : Nat → Nat) (N S : Nat) (z : CS) (gN4 : 4 ≤ N) (gN : N ≤ 10) (gS1 : 1 ≤ S) (gS : S ≤ 16) (x y : Int32) : Met l y_A_peek w_A_peek ({ frames := 2, cells := 0, slots := 0, locals := 43 }) (va_Pc [.ref (q 0), .int x, .int y] (k_R D [(cA, .int)] (wC cA q N S z))) (k_Ro (some (.long (cPk N S x y z)))) 0 0 (fun _ => False) := by
  refine Met.ofW (cc := b_A_peek) (maxL := 3) (ret := (some .long)) (by decide) rfl ?_
  intro p e s m args below meth c s₁ B hml hv
  obtain ⟨rfl, hP, hK⟩ := hv
  have hx := B.exec
  have hb := B.bytes
  have hr := B.returns
  have hts0 := atoms_spec (ws := w_A_peek) B.pre
  have hts : ∀ w ∈ lw_g, w.before _ s = true := fun w h => hts0 w (List.mem_cons_of_mem _ h)
  have hown : s.vm.findClass R_A = some m.cls := findClass_of_methodNamed B.named
  have hlocks := B.notSynchronized
  have hl := lv_entry ([.ref (q 0), .int x, .int y]) (n := 3) (Nat.le_of_ble_eq_true rfl)
  rw [lg_entry_eq]
  generalize (lg_sl ([.ref (q 0), .int x, .int y]) ++ List.replicate (3 - (lg_sl ([.ref (q 0), .int x, .int y])).length) Slot.unset).toArray = ls at hl ⊢
  have hl : lv_has ls 3 [(0, .ref (q 0)), (1, .int x), (2, .int y)] := hl
  refine lv_aload_n hx hb d_A_peek_0 rfl (lv_at hl 0 rfl) ?_
  refine va_get (D := D) (ci := 3) (v := .ref (q 1)) (C := R_A) (T := T_A) (N := 11) hx hb hts (in_A) hown hK hP 0 rfl rfl 2 (by decide) (hts _ m_f_A_25) (fun _ h9 => h9) rfl d_A_peek_1 ?_
  refine lv_iload_n hx hb d_A_peek_4 rfl (lv_at hl 1 rfl) ?_
  refine lv_iload_n hx hb d_A_peek_5 rfl (lv_at hl 2 rfl) ?_
  refine k_roi (va_runV (C := R_D) (As := [.int x, .int y]) (rest := []) ⟨hx, hb, hml, hown, hts⟩ (c_Disks_hasCell l D cA (q 1) (q 2) (q 3) N S (cW z) (cP z) (by omega) (by omega) (by omega) (by omega) x y) (k_cwV 2 hts m_code_D_hasCell m_ini_D m_l_A_154 m_inst_D_hasCell m_sel_D_hasCell h_D_hasCell rfl rfl ⟨Nat.le_of_ble_eq_true rfl, Nat.le_of_ble_eq_true rfl⟩) (k_pR hP hK [1, 2, 3] rfl 1 0 rfl rfl) rfl rfl hl.1 rfl (lv_room (Nat.le_of_ble_eq_true rfl)) d_A_peek_6 ⟨Nat.zero_le _, Nat.zero_le _⟩) ?_
  refine lv_if_eq (tgt := 24) hx hb d_A_peek_9 rfl (fun g9 => ?_) (fun g9 => ?_)
  · have h9 := of_decide_eq_false (bi_z.mp g9)
    refine lv_ldc2 (v := (-1)) hx hb hown (hts _ m_c_A_55) d_A_peek_24 ?_
    refine k_topl (cPk N S x y z) (by first | ((try unfold cPk); (repeat (first | rw [if_pos g9] | rw [if_neg g9] | rw [if_pos h9] | rw [if_neg h9] | rw [if_neg (show ¬ true = false by decide)] | rw [if_pos (show false = false from rfl)] | dsimp only)); first | done | rfl) | rfl | (simp [cPk, g9, h9]; done)) ?_
    exact W.lret (v := cPk N S x y z) hx hb hr (fun t ht hW => ⟨rfl, ht⟩) (fun _ h => by cases h) d_A_peek_27
  · have h9 := of_decide_eq_true (bi_nz.mp g9)
    obtain ⟨hx1, hx2⟩ := tn_of (by omega) h9.1
    have hl : lv_has ls 3 [(0, .ref (q 0)), (1, .int (nI (tn x))), (2, .int y)] := by rw [← hx2]; exact hl
    refine lv_aload_n hx hb d_A_peek_12 rfl (lv_at hl 0 rfl) ?_
    refine va_get (D := D) (ci := 3) (v := .ref (q 1)) (C := R_A) (T := T_A) (N := 11) hx hb hts (in_A) hown hK hP 0 rfl rfl 2 (by decide) (hts _ m_f_A_25) (fun _ h9 => h9) rfl d_A_peek_13 ?_
    refine lv_iload_n hx hb d_A_peek_16 rfl (lv_at hl 1 rfl) ?_
    refine lv_iload_n hx hb d_A_peek_17 rfl (lv_at hl 2 rfl) ?_
    refine k_roi (va_runV (C := R_D) (As := [.int (nI (tn x)), .int y]) (rest := []) ⟨hx, hb, hml, hown, hts⟩ (c_Disks_available l D cA (q 1) (q 2) (q 3) N S (cW z) (cP z) (by omega) (by omega) (by omega) (by omega) (tn x) y (by omega)) (k_cwV 2 hts m_code_D_available m_ini_D m_l_A_65 m_inst_D_available m_sel_D_available h_D_available rfl rfl ⟨Nat.le_of_ble_eq_true rfl, Nat.le_of_ble_eq_true rfl⟩) (k_pR hP hK [1, 2, 3] rfl 1 0 rfl rfl) rfl rfl hl.1 rfl (lv_room (Nat.le_of_ble_eq_true rfl)) d_A_peek_18 ⟨Nat.zero_le _, Nat.zero_le _⟩) ?_
    refine lv_if_ne (tgt := 28) hx hb d_A_peek_21 rfl (fun g21 => ?_) (fun g21 => ?_)
    · have h21 := of_decide_eq_true (bi_nz.mp g21)
      obtain ⟨hy1, hy2⟩ := tn_of (by omega) h9.2
      have hl : lv_has ls 3 [(0, .ref (q 0)), (1, .int (nI (tn x))), (2, .int (nI (tn y)))] := by rw [← hy2]; exact hl
      refine lv_aload_n hx hb d_A_peek_28 rfl (lv_at hl 0 rfl) ?_
      refine va_get (D := D) (ci := 3) (v := .ref (q 1)) (C := R_A) (T := T_A) (N := 11) hx hb hts (in_A) hown hK hP 0 rfl rfl 2 (by decide) (hts _ m_f_A_25) (fun _ h9 => h9) rfl d_A_peek_29 ?_
      refine lv_iload_n hx hb d_A_peek_32 rfl (lv_at hl 1 rfl) ?_
      refine lv_iload_n hx hb d_A_peek_33 rfl (lv_at hl 2 rfl) ?_
      refine k_roi (va_runV (C := R_D) (As := [.int (nI (tn x)), .int (nI (tn y))]) (rest := []) ⟨hx, hb, hml, hown, hts⟩ (c_Disks_wordAt l D cA (q 1) (q 2) (q 3) N S (cW z) (cP z) (by omega) (by omega) (by omega) (by omega) (tn x) (tn y) (by omega) (by omega)) (k_cwV 2 hts m_code_D_wordAt m_ini_D m_l_A_72 m_inst_D_wordAt m_sel_D_wordAt h_D_wordAt rfl rfl ⟨Nat.le_of_ble_eq_true rfl, Nat.le_of_ble_eq_true rfl⟩) (k_pR hP hK [1, 2, 3] rfl 1 0 rfl rfl) rfl rfl hl.1 rfl (lv_room (Nat.le_of_ble_eq_true rfl)) d_A_peek_34 ⟨Nat.zero_le _, Nat.zero_le _⟩) ?_
      refine k_rol (va_runS (As := [.int ((cW z) ((tn x) * S + (tn y)))]) (rest := []) ⟨hx, hb, hml, hown, hts⟩ (c_DualParityArray_unsigned l D ((cW z) ((tn x) * S + (tn y)))) (k_cwS 1 hts m_code_A_unsigned m_ini_A m_l_A_75 m_stat_A_unsigned h_A_unsigned rfl rfl ⟨Nat.le_of_ble_eq_true rfl, Nat.le_of_ble_eq_true rfl⟩) (k_s0) rfl rfl hl.1 rfl (lv_room (Nat.le_of_ble_eq_true rfl)) d_A_peek_37 ⟨Nat.zero_le _, Nat.zero_le _⟩) ?_
      refine k_topl (cPk N S x y z) (by first | ((try unfold cPk); (repeat (first | rw [if_pos g9] | rw [if_neg g9] | rw [if_pos h9] | rw [if_neg h9] | rw [if_pos g21] | rw [if_neg g21] | rw [if_pos h21] | rw [if_neg h21] | rw [if_neg (show ¬ true = false by decide)] | rw [if_pos (show false = false from rfl)] | dsimp only)); first | done | rfl) | rfl | (simp [cPk, g9, h9, g21, h21]; done)) ?_
      exact W.lret (v := cPk N S x y z) hx hb hr (fun t ht hW => ⟨rfl, ht⟩) (fun _ h => by cases h) d_A_peek_40
    · have h21 := of_decide_eq_false (bi_z.mp g21)
      refine lv_ldc2 (v := (-1)) hx hb hown (hts _ m_c_A_55) d_A_peek_24 ?_
      refine k_topl (cPk N S x y z) (by first | ((try unfold cPk); (repeat (first | rw [if_pos g9] | rw [if_neg g9] | rw [if_pos h9] | rw [if_neg h9] | rw [if_pos g21] | rw [if_neg g21] | rw [if_pos h21] | rw [if_neg h21] | rw [if_neg (show ¬ true = false by decide)] | rw [if_pos (show false = false from rfl)] | dsimp only)); first | done | rfl) | rfl | (simp [cPk, g9, h9, g21, h21]; done)) ?_
      exact W.lret (v := cPk N S x y z) hx hb hr (fun t ht hW => ⟨rfl, ht⟩) (fun _ h => by cases h) d_A_peek_27
set_option maxHeartbeats 4000000 in
set_option maxRecDepth 100000 in
theorem c_DualParityArray_locate (l : Launch) (D : va_G) (cA : ClassId) (q : Nat → Nat) (N S : Nat) (z : CS) (gN4 : 4 ≤ N) (gN : N ≤ 10) (gS1 : 1 ≤ S) (gS : S ≤ 16) (x : Int32) : Met l y_A_locate w_A_locate ({ frames := 2, cells := 0, slots := 0, locals := 43 }) (va_Pc [.ref (q 0), .int x] (k_R D [(cA, .int)] (wC cA q N S z))) (k_Ro (some (.int (loc N S x)))) 0 0 (fun _ => False) := by
  refine Met.ofW (cc := b_A_locate) (maxL := 2) (ret := (some .int)) (by decide) rfl ?_
  intro p e s m args below meth c s₁ B hml hv
  obtain ⟨rfl, hP, hK⟩ := hv
  have hx := B.exec
  have hb := B.bytes
  have hr := B.returns
  have hts0 := atoms_spec (ws := w_A_locate) B.pre
  have hts : ∀ w ∈ lw_g, w.before _ s = true := fun w h => hts0 w (List.mem_cons_of_mem _ h)
  have hown : s.vm.findClass R_A = some m.cls := findClass_of_methodNamed B.named
  have hlocks := B.notSynchronized
  have hl := lv_entry ([.ref (q 0), .int x]) (n := 2) (Nat.le_of_ble_eq_true rfl)
  rw [lg_entry_eq]
  generalize (lg_sl ([.ref (q 0), .int x]) ++ List.replicate (2 - (lg_sl ([.ref (q 0), .int x])).length) Slot.unset).toArray = ls at hl ⊢
  have hl : lv_has ls 2 [(0, .ref (q 0)), (1, .int x)] := hl
  have hSN : S * (N - 2) ≤ 16 * 8 := Nat.mul_le_mul gS (by omega)
  refine lv_aload_n hx hb d_A_locate_0 rfl (lv_at hl 0 rfl) ?_
  refine lv_iload_n hx hb d_A_locate_1 rfl (lv_at hl 1 rfl) ?_
  refine k_roi (va_runV (C := R_A) (As := [.int x]) (rest := []) ⟨hx, hb, hml, hown, hts⟩ (c_DualParityArray_hasBlock l D cA q N S z (by omega) (by omega) (by omega) (by omega) x) (k_cwV 1 hts m_code_A_hasBlock m_ini_A m_l_A_51 m_inst_A_hasBlock m_sel_A_hasBlock h_A_hasBlock rfl rfl ⟨Nat.le_of_ble_eq_true rfl, Nat.le_of_ble_eq_true rfl⟩) (k_pR hP hK [0, 1, 2, 3, 4, 5, 6, 7] rfl 0 3 rfl rfl) rfl rfl hl.1 rfl (lv_room (Nat.le_of_ble_eq_true rfl)) d_A_locate_2 ⟨Nat.zero_le _, Nat.zero_le _⟩) ?_
  refine lv_if_ne (tgt := 10) hx hb d_A_locate_5 rfl (fun g5 => ?_) (fun g5 => ?_)
  · have h5 := of_decide_eq_true (bi_nz.mp g5)
    obtain ⟨hx1, hx2⟩ := tn_of (by omega) h5
    have hq1 : tn x % (N - 2) < N - 2 := Nat.mod_lt _ (by omega)
    have hq2 : tn x / (N - 2) < S := (Nat.div_lt_iff_lt_mul (by omega)).mpr hx1
    have hl : lv_has ls 2 [(0, .ref (q 0)), (1, .int (nI (tn x)))] := by rw [← hx2]; exact hl
    refine lv_aload_n hx hb d_A_locate_10 rfl (lv_at hl 0 rfl) ?_
    refine va_get (D := D) (ci := 3) (v := .ref (q 1)) (C := R_A) (T := T_A) (N := 11) hx hb hts (in_A) hown hK hP 0 rfl rfl 2 (by decide) (hts _ m_f_A_25) (fun _ h9 => h9) rfl d_A_locate_11 ?_
    refine lv_iload_n hx hb d_A_locate_14 rfl (lv_at hl 1 rfl) ?_
    refine lv_aload_n hx hb d_A_locate_15 rfl (lv_at hl 0 rfl) ?_
    refine va_get (D := D) (ci := 3) (v := .int (nI (N - 2))) (C := R_A) (T := T_A) (N := 11) hx hb hts (in_A) hown hK hP 0 rfl rfl 1 (by decide) (hts _ m_f_A_17) (fun _ h9 => h9) rfl d_A_locate_16 ?_
    refine lv_irem hx hb d_A_locate_19 (nI_ne0 (by omega) (by omega)) ?_
    refine k_top (nI ((tn x) % (N - 2))) (pk_rem (a := tn x) (d := N - 2) (by omega) (by omega) (by omega)) ?_
    refine lv_iload_n hx hb d_A_locate_20 rfl (lv_at hl 1 rfl) ?_
    refine lv_aload_n hx hb d_A_locate_21 rfl (lv_at hl 0 rfl) ?_
    refine va_get (D := D) (ci := 3) (v := .int (nI (N - 2))) (C := R_A) (T := T_A) (N := 11) hx hb hts (in_A) hown hK hP 0 rfl rfl 1 (by decide) (hts _ m_f_A_17) (fun _ h9 => h9) rfl d_A_locate_22 ?_
    refine lv_idiv hx hb d_A_locate_25 (nI_ne0 (by omega) (by omega)) ?_
    refine k_top (nI ((tn x) / (N - 2))) (pk_div (a := tn x) (d := N - 2) (by omega) (by omega) (by omega)) ?_
    refine k_roi (va_runV (C := R_D) (As := [.int (nI ((tn x) % (N - 2))), .int (nI ((tn x) / (N - 2)))]) (rest := []) ⟨hx, hb, hml, hown, hts⟩ (c_Disks_diskOf l D cA (q 1) (q 2) (q 3) N S (cW z) (cP z) (by omega) (by omega) (by omega) (by omega) ((tn x) % (N - 2)) ((tn x) / (N - 2)) (by omega) (by omega)) (k_cwV 2 hts m_code_D_diskOf m_ini_D m_l_A_61 m_inst_D_diskOf m_sel_D_diskOf h_D_diskOf rfl rfl ⟨Nat.le_of_ble_eq_true rfl, Nat.le_of_ble_eq_true rfl⟩) (k_pR hP hK [1, 2, 3] rfl 1 0 rfl rfl) rfl rfl hl.1 rfl (lv_room (Nat.le_of_ble_eq_true rfl)) d_A_locate_26 ⟨Nat.zero_le _, Nat.zero_le _⟩) ?_
    have f1 : dk N ((tn x) % (N - 2)) ((tn x) / (N - 2)) < N := dk_lt (by omega)
    refine k_top (loc N S x) (by first | ((try unfold loc); (repeat (first | rw [if_pos g5] | rw [if_neg g5] | rw [if_pos h5] | rw [if_neg h5] | rw [if_neg (show ¬ true = false by decide)] | rw [if_pos (show false = false from rfl)] | dsimp only)); first | done | rfl) | rfl | (simp [loc, g5, h5]; done)) ?_
    exact W.iret (v := loc N S x) hx hb hr (fun t ht hW => ⟨rfl, ht⟩) (fun _ h => by cases h) d_A_locate_29
  · have h5 := of_decide_eq_false (bi_z.mp g5)
    refine lv_iconst (v := (-1)) hx hb d_A_locate_8 (by decide) ?_
    refine k_top (loc N S x) (by first | ((try unfold loc); (repeat (first | rw [if_pos g5] | rw [if_neg g5] | rw [if_pos h5] | rw [if_neg h5] | rw [if_neg (show ¬ true = false by decide)] | rw [if_pos (show false = false from rfl)] | dsimp only)); first | done | rfl) | rfl | (simp [loc, g5, h5]; done)) ?_
    exact W.iret (v := loc N S x) hx hb hr (fun t ht hW => ⟨rfl, ht⟩) (fun _ h => by cases h) d_A_locate_9
set_option maxHeartbeats 4000000 in
set_option maxRecDepth 100000 in
theorem c_DualParityArray_position (l : Launch) (D : va_G) (cA : ClassId) (q : Nat → Nat) (N S : Nat) (z : CS) (gN4 : 4 ≤ N) (gN : N ≤ 10) (gS1 : 1 ≤ S) (gS : S ≤ 16) (x : Int32) : Met l y_A_position w_A_position ({ frames := 1, cells := 0, slots := 0, locals := 21 }) (va_Pc [.ref (q 0), .int x] (k_R D [(cA, .int)] (wC cA q N S z))) (k_Ro (some (.int (cPo N x z)))) 0 0 (fun _ => False) := by
  refine Met.ofW (cc := b_A_position) (maxL := 2) (ret := (some .int)) (by decide) rfl ?_
  intro p e s m args below meth c s₁ B hml hv
  obtain ⟨rfl, hP, hK⟩ := hv
  have hx := B.exec
  have hb := B.bytes
  have hr := B.returns
  have hts0 := atoms_spec (ws := w_A_position) B.pre
  have hts : ∀ w ∈ lw_g, w.before _ s = true := fun w h => hts0 w (List.mem_cons_of_mem _ h)
  have hown : s.vm.findClass R_A = some m.cls := findClass_of_methodNamed B.named
  have hlocks := B.notSynchronized
  have hl := lv_entry ([.ref (q 0), .int x]) (n := 2) (Nat.le_of_ble_eq_true rfl)
  rw [lg_entry_eq]
  generalize (lg_sl ([.ref (q 0), .int x]) ++ List.replicate (2 - (lg_sl ([.ref (q 0), .int x])).length) Slot.unset).toArray = ls at hl ⊢
  have hl : lv_has ls 2 [(0, .ref (q 0)), (1, .int x)] := hl
  refine lv_aload_n hx hb d_A_position_0 rfl (lv_at hl 0 rfl) ?_
  refine va_get (D := D) (ci := 3) (v := .ref (q 1)) (C := R_A) (T := T_A) (N := 11) hx hb hts (in_A) hown hK hP 0 rfl rfl 2 (by decide) (hts _ m_f_A_25) (fun _ h9 => h9) rfl d_A_position_1 ?_
  refine lv_iload_n hx hb d_A_position_4 rfl (lv_at hl 1 rfl) ?_
  refine k_roi (va_runV (C := R_D) (As := [.int x]) (rest := []) ⟨hx, hb, hml, hown, hts⟩ (c_Disks_hasDisk l D cA (q 1) (q 2) (q 3) N S (cW z) (cP z) (by omega) (by omega) (by omega) (by omega) x) (k_cwV 1 hts m_code_D_hasDisk m_ini_D m_l_A_107 m_inst_D_hasDisk m_sel_D_hasDisk h_D_hasDisk rfl rfl ⟨Nat.le_of_ble_eq_true rfl, Nat.le_of_ble_eq_true rfl⟩) (k_pR hP hK [1, 2, 3] rfl 1 0 rfl rfl) rfl rfl hl.1 rfl (lv_room (Nat.le_of_ble_eq_true rfl)) d_A_position_5 ⟨Nat.zero_le _, Nat.zero_le _⟩) ?_
  refine lv_if_ne (tgt := 13) hx hb d_A_position_8 rfl (fun g8 => ?_) (fun g8 => ?_)
  · have h8 := of_decide_eq_true (bi_nz.mp g8)
    obtain ⟨hx1, hx2⟩ := tn_of (by omega) h8
    have hl : lv_has ls 2 [(0, .ref (q 0)), (1, .int (nI (tn x)))] := by rw [← hx2]; exact hl
    refine lv_aload_n hx hb d_A_position_13 rfl (lv_at hl 0 rfl) ?_
    refine va_get (D := D) (ci := 3) (v := .ref (q 1)) (C := R_A) (T := T_A) (N := 11) hx hb hts (in_A) hown hK hP 0 rfl rfl 2 (by decide) (hts _ m_f_A_25) (fun _ h9 => h9) rfl d_A_position_14 ?_
    refine lv_iload_n hx hb d_A_position_17 rfl (lv_at hl 1 rfl) ?_
    refine k_roi (va_runV (C := R_D) (As := [.int (nI (tn x))]) (rest := []) ⟨hx, hb, hml, hown, hts⟩ (c_Disks_missing l D cA (q 1) (q 2) (q 3) N S (cW z) (cP z) (by omega) (by omega) (by omega) (by omega) (tn x) (by omega)) (k_cwV 1 hts m_code_D_missing m_ini_D m_l_A_110 m_inst_D_missing m_sel_D_missing h_D_missing rfl rfl ⟨Nat.le_of_ble_eq_true rfl, Nat.le_of_ble_eq_true rfl⟩) (k_pR hP hK [1, 2, 3] rfl 1 0 rfl rfl) rfl rfl hl.1 rfl (lv_room (Nat.le_of_ble_eq_true rfl)) d_A_position_18 ⟨Nat.zero_le _, Nat.zero_le _⟩) ?_
    refine lv_if_eq (tgt := 29) hx hb d_A_position_21 rfl (fun g21 => ?_) (fun g21 => ?_)
    · have h21 := of_decide_eq_false (bi_z.mp g21)
      refine lv_aload_n hx hb d_A_position_29 rfl (lv_at hl 0 rfl) ?_
      refine va_get (D := D) (ci := 3) (v := .ref (q 1)) (C := R_A) (T := T_A) (N := 11) hx hb hts (in_A) hown hK hP 0 rfl rfl 2 (by decide) (hts _ m_f_A_25) (fun _ h9 => h9) rfl d_A_position_30 ?_
      refine lv_iload_n hx hb d_A_position_33 rfl (lv_at hl 1 rfl) ?_
      refine k_roi (va_runV (C := R_D) (As := [.int (nI (tn x))]) (rest := []) ⟨hx, hb, hml, hown, hts⟩ (c_Disks_positionOf l D cA (q 1) (q 2) (q 3) N S (cW z) (cP z) (by omega) (by omega) (by omega) (by omega) (tn x) (by omega)) (k_cwV 1 hts m_code_D_positionOf m_ini_D m_l_A_122 m_inst_D_positionOf m_sel_D_positionOf h_D_positionOf rfl rfl ⟨Nat.le_of_ble_eq_true rfl, Nat.le_of_ble_eq_true rfl⟩) (k_pR hP hK [1, 2, 3] rfl 1 0 rfl rfl) rfl rfl hl.1 rfl (lv_room (Nat.le_of_ble_eq_true rfl)) d_A_position_34 ⟨Nat.zero_le _, Nat.zero_le _⟩) ?_
      refine k_top (cPo N x z) (by first | ((try unfold cPo); (repeat (first | rw [if_pos g8] | rw [if_neg g8] | rw [if_pos h8] | rw [if_neg h8] | rw [if_pos g21] | rw [if_neg g21] | rw [if_pos h21] | rw [if_neg h21] | rw [if_neg (show ¬ true = false by decide)] | rw [if_pos (show false = false from rfl)] | dsimp only)); first | done | rfl) | rfl | (simp [cPo, g8, h8, g21, h21]; done)) ?_
      exact W.iret (v := cPo N x z) hx hb hr (fun t ht hW => ⟨rfl, ht⟩) (fun _ h => by cases h) d_A_position_37
    · have h21 := of_decide_eq_true (bi_nz.mp g21)
      refine lv_bipush (v := (-9)) hx hb d_A_position_24 (by decide) ?_
      refine lv_goto hx hb d_A_position_26 rfl ?_
      refine k_top (cPo N x z) (by first | ((try unfold cPo); (repeat (first | rw [if_pos g8] | rw [if_neg g8] | rw [if_pos h8] | rw [if_neg h8] | rw [if_pos g21] | rw [if_neg g21] | rw [if_pos h21] | rw [if_neg h21] | rw [if_neg (show ¬ true = false by decide)] | rw [if_pos (show false = false from rfl)] | dsimp only)); first | done | rfl) | rfl | (simp [cPo, g8, h8, g21, h21]; done)) ?_
      exact W.iret (v := cPo N x z) hx hb hr (fun t ht hW => ⟨rfl, ht⟩) (fun _ h => by cases h) d_A_position_37
  · have h8 := of_decide_eq_false (bi_z.mp g8)
    refine lv_iconst (v := (-1)) hx hb d_A_position_11 (by decide) ?_
    refine k_top (cPo N x z) (by first | ((try unfold cPo); (repeat (first | rw [if_pos g8] | rw [if_neg g8] | rw [if_pos h8] | rw [if_neg h8] | rw [if_neg (show ¬ true = false by decide)] | rw [if_pos (show false = false from rfl)] | dsimp only)); first | done | rfl) | rfl | (simp [cPo, g8, h8]; done)) ?_
    exact W.iret (v := cPo N x z) hx hb hr (fun t ht hW => ⟨rfl, ht⟩) (fun _ h => by cases h) d_A_position_12
set_option maxHeartbeats 4000000 in
set_option maxRecDepth 100000 in
theorem c_DualParityArray_mode (l : Launch) (D : va_G) (cA : ClassId) (q : Nat → Nat) (N S : Nat) (z : CS) (gN4 : 4 ≤ N) (gN : N ≤ 10) (gS1 : 1 ≤ S) (gS : S ≤ 16) : Met l y_A_mode w_A_mode ({ frames := 1, cells := 0, slots := 0, locals := 22 }) (va_Pc [.ref (q 0)] (k_R D [(cA, .int)] (wC cA q N S z))) (k_Ro (some (.int (cMo N S z)))) 0 0 (fun _ => False) := by
  refine Met.ofW (cc := b_A_mode) (maxL := 2) (ret := (some .int)) (by decide) rfl ?_
  intro p e s m args below meth c s₁ B hml hv
  obtain ⟨rfl, hP, hK⟩ := hv
  have hx := B.exec
  have hb := B.bytes
  have hr := B.returns
  have hts0 := atoms_spec (ws := w_A_mode) B.pre
  have hts : ∀ w ∈ lw_g, w.before _ s = true := fun w h => hts0 w (List.mem_cons_of_mem _ h)
  have hown : s.vm.findClass R_A = some m.cls := findClass_of_methodNamed B.named
  have hlocks := B.notSynchronized
  have hl := lv_entry ([.ref (q 0)]) (n := 2) (Nat.le_of_ble_eq_true rfl)
  rw [lg_entry_eq]
  generalize (lg_sl ([.ref (q 0)]) ++ List.replicate (2 - (lg_sl ([.ref (q 0)])).length) Slot.unset).toArray = ls at hl ⊢
  have hl : lv_has ls 2 [(0, .ref (q 0))] := hl
  refine lv_aload_n hx hb d_A_mode_0 rfl (lv_at hl 0 rfl) ?_
  refine va_get (D := D) (ci := 3) (v := .int (cDn z)) (C := R_A) (T := T_A) (N := 11) hx hb hts (in_A) hown hK hP 0 rfl rfl 6 (by decide) (hts _ m_f_A_161) (fun _ h9 => h9) rfl d_A_mode_1 ?_
  refine lv_if_eq (tgt := 11) hx hb d_A_mode_4 rfl (fun g4 => ?_) (fun g4 => ?_)
  · refine lv_iconst (v := 0) hx hb d_A_mode_11 (by decide) ?_
    refine lv_istore_n (lv' := [(1, .int 0), (0, .ref (q 0))]) hx hb d_A_mode_12 rfl hl (by decide) rfl (fun ls hl => ?_)
    refine lv_aload_n hx hb d_A_mode_13 rfl (lv_at hl 1 rfl) ?_
    refine va_get (D := D) (ci := 3) (v := .ref (q 1)) (C := R_A) (T := T_A) (N := 11) hx hb hts (in_A) hown hK hP 0 rfl rfl 2 (by decide) (hts _ m_f_A_25) (fun _ h9 => h9) rfl d_A_mode_14 ?_
    refine k_roi (va_runV (C := R_D) (As := []) (rest := []) ⟨hx, hb, hml, hown, hts⟩ (c_Disks_broken l D cA (q 1) (q 2) (q 3) N S (cW z) (cP z) (by omega) (by omega) (by omega) (by omega)) (k_cwV 0 hts m_code_D_broken m_ini_D m_l_A_168 m_inst_D_broken m_sel_D_broken h_D_broken rfl rfl ⟨Nat.le_of_ble_eq_true rfl, Nat.le_of_ble_eq_true rfl⟩) (k_pR hP hK [1, 2, 3] rfl 1 0 rfl rfl) rfl rfl hl.1 rfl (lv_room (Nat.le_of_ble_eq_true rfl)) d_A_mode_17 ⟨Nat.zero_le _, Nat.zero_le _⟩) ?_
    refine lv_if_eq (tgt := 26) hx hb d_A_mode_20 rfl (fun g20 => ?_) (fun g20 => ?_)
    · have h20 := of_decide_eq_false (bi_z.mp g20)
      refine lv_aload_n hx hb d_A_mode_26 rfl (lv_at hl 1 rfl) ?_
      refine va_get (D := D) (ci := 3) (v := .int (cUn z)) (C := R_A) (T := T_A) (N := 11) hx hb hts (in_A) hown hK hP 0 rfl rfl 7 (by decide) (hts _ m_f_A_48) (fun _ h9 => h9) rfl d_A_mode_27 ?_
      refine lv_iconst (v := (-1)) hx hb d_A_mode_30 (by decide) ?_
      refine lv_icmp_eq (tgt := 37) hx hb d_A_mode_31 rfl (fun g31 => ?_) (fun g31 => ?_)
      · refine lv_iload_n hx hb d_A_mode_37 rfl (lv_at hl 0 rfl) ?_
        refine k_top (cMo N S z) (by first | ((try unfold cMo); (repeat (first | rw [if_pos g4] | rw [if_neg g4] | rw [if_pos g20] | rw [if_neg g20] | rw [if_pos h20] | rw [if_neg h20] | rw [if_pos g31] | rw [if_neg g31] | rw [if_neg (show ¬ true = false by decide)] | rw [if_pos (show false = false from rfl)] | dsimp only)); first | done | rfl) | rfl | (simp [cMo, g4, g20, h20, g31]; done)) ?_
        exact W.iret (v := cMo N S z) hx hb hr (fun t ht hW => ⟨rfl, ht⟩) (fun _ h => by cases h) d_A_mode_38
      · refine lv_iinc (k := 0) (v := 4) (lv' := [(1, .int 4), (0, .ref (q 0))]) hx hb d_A_mode_34 hl rfl (by decide) (by decide) rfl (fun ls hl => ?_)
        refine lv_iload_n hx hb d_A_mode_37 rfl (lv_at hl 0 rfl) ?_
        refine k_top (cMo N S z) (by first | ((try unfold cMo); (repeat (first | rw [if_pos g4] | rw [if_neg g4] | rw [if_pos g20] | rw [if_neg g20] | rw [if_pos h20] | rw [if_neg h20] | rw [if_pos g31] | rw [if_neg g31] | rw [if_neg (show ¬ true = false by decide)] | rw [if_pos (show false = false from rfl)] | dsimp only)); first | done | rfl) | rfl | (simp [cMo, g4, g20, h20, g31]; done)) ?_
        exact W.iret (v := cMo N S z) hx hb hr (fun t ht hW => ⟨rfl, ht⟩) (fun _ h => by cases h) d_A_mode_38
    · have h20 := of_decide_eq_true (bi_nz.mp g20)
      refine lv_iinc (k := 0) (v := 2) (lv' := [(1, .int 2), (0, .ref (q 0))]) hx hb d_A_mode_23 hl rfl (by decide) (by decide) rfl (fun ls hl => ?_)
      refine lv_aload_n hx hb d_A_mode_26 rfl (lv_at hl 1 rfl) ?_
      refine va_get (D := D) (ci := 3) (v := .int (cUn z)) (C := R_A) (T := T_A) (N := 11) hx hb hts (in_A) hown hK hP 0 rfl rfl 7 (by decide) (hts _ m_f_A_48) (fun _ h9 => h9) rfl d_A_mode_27 ?_
      refine lv_iconst (v := (-1)) hx hb d_A_mode_30 (by decide) ?_
      refine lv_icmp_eq (tgt := 37) hx hb d_A_mode_31 rfl (fun g31 => ?_) (fun g31 => ?_)
      · refine lv_iload_n hx hb d_A_mode_37 rfl (lv_at hl 0 rfl) ?_
        refine k_top (cMo N S z) (by first | ((try unfold cMo); (repeat (first | rw [if_pos g4] | rw [if_neg g4] | rw [if_pos g20] | rw [if_neg g20] | rw [if_pos h20] | rw [if_neg h20] | rw [if_pos g31] | rw [if_neg g31] | rw [if_neg (show ¬ true = false by decide)] | rw [if_pos (show false = false from rfl)] | dsimp only)); first | done | rfl) | rfl | (simp [cMo, g4, g20, h20, g31]; done)) ?_
        exact W.iret (v := cMo N S z) hx hb hr (fun t ht hW => ⟨rfl, ht⟩) (fun _ h => by cases h) d_A_mode_38
      · refine lv_iinc (k := 0) (v := 6) (lv' := [(1, .int 6), (0, .ref (q 0))]) hx hb d_A_mode_34 hl rfl (by decide) (by decide) rfl (fun ls hl => ?_)
        refine lv_iload_n hx hb d_A_mode_37 rfl (lv_at hl 0 rfl) ?_
        refine k_top (cMo N S z) (by first | ((try unfold cMo); (repeat (first | rw [if_pos g4] | rw [if_neg g4] | rw [if_pos g20] | rw [if_neg g20] | rw [if_pos h20] | rw [if_neg h20] | rw [if_pos g31] | rw [if_neg g31] | rw [if_neg (show ¬ true = false by decide)] | rw [if_pos (show false = false from rfl)] | dsimp only)); first | done | rfl) | rfl | (simp [cMo, g4, g20, h20, g31]; done)) ?_
        exact W.iret (v := cMo N S z) hx hb hr (fun t ht hW => ⟨rfl, ht⟩) (fun _ h => by cases h) d_A_mode_38
  · refine lv_iconst (v := 1) hx hb d_A_mode_7 (by decide) ?_
    refine lv_goto hx hb d_A_mode_8 rfl ?_
    refine lv_istore_n (lv' := [(1, .int 1), (0, .ref (q 0))]) hx hb d_A_mode_12 rfl hl (by decide) rfl (fun ls hl => ?_)
    refine lv_aload_n hx hb d_A_mode_13 rfl (lv_at hl 1 rfl) ?_
    refine va_get (D := D) (ci := 3) (v := .ref (q 1)) (C := R_A) (T := T_A) (N := 11) hx hb hts (in_A) hown hK hP 0 rfl rfl 2 (by decide) (hts _ m_f_A_25) (fun _ h9 => h9) rfl d_A_mode_14 ?_
    refine k_roi (va_runV (C := R_D) (As := []) (rest := []) ⟨hx, hb, hml, hown, hts⟩ (c_Disks_broken l D cA (q 1) (q 2) (q 3) N S (cW z) (cP z) (by omega) (by omega) (by omega) (by omega)) (k_cwV 0 hts m_code_D_broken m_ini_D m_l_A_168 m_inst_D_broken m_sel_D_broken h_D_broken rfl rfl ⟨Nat.le_of_ble_eq_true rfl, Nat.le_of_ble_eq_true rfl⟩) (k_pR hP hK [1, 2, 3] rfl 1 0 rfl rfl) rfl rfl hl.1 rfl (lv_room (Nat.le_of_ble_eq_true rfl)) d_A_mode_17 ⟨Nat.zero_le _, Nat.zero_le _⟩) ?_
    refine lv_if_eq (tgt := 26) hx hb d_A_mode_20 rfl (fun g20 => ?_) (fun g20 => ?_)
    · have h20 := of_decide_eq_false (bi_z.mp g20)
      refine lv_aload_n hx hb d_A_mode_26 rfl (lv_at hl 1 rfl) ?_
      refine va_get (D := D) (ci := 3) (v := .int (cUn z)) (C := R_A) (T := T_A) (N := 11) hx hb hts (in_A) hown hK hP 0 rfl rfl 7 (by decide) (hts _ m_f_A_48) (fun _ h9 => h9) rfl d_A_mode_27 ?_
      refine lv_iconst (v := (-1)) hx hb d_A_mode_30 (by decide) ?_
      refine lv_icmp_eq (tgt := 37) hx hb d_A_mode_31 rfl (fun g31 => ?_) (fun g31 => ?_)
      · refine lv_iload_n hx hb d_A_mode_37 rfl (lv_at hl 0 rfl) ?_
        refine k_top (cMo N S z) (by first | ((try unfold cMo); (repeat (first | rw [if_pos g4] | rw [if_neg g4] | rw [if_pos g20] | rw [if_neg g20] | rw [if_pos h20] | rw [if_neg h20] | rw [if_pos g31] | rw [if_neg g31] | rw [if_neg (show ¬ true = false by decide)] | rw [if_pos (show false = false from rfl)] | dsimp only)); first | done | rfl) | rfl | (simp [cMo, g4, g20, h20, g31]; done)) ?_
        exact W.iret (v := cMo N S z) hx hb hr (fun t ht hW => ⟨rfl, ht⟩) (fun _ h => by cases h) d_A_mode_38
      · refine lv_iinc (k := 0) (v := 5) (lv' := [(1, .int 5), (0, .ref (q 0))]) hx hb d_A_mode_34 hl rfl (by decide) (by decide) rfl (fun ls hl => ?_)
        refine lv_iload_n hx hb d_A_mode_37 rfl (lv_at hl 0 rfl) ?_
        refine k_top (cMo N S z) (by first | ((try unfold cMo); (repeat (first | rw [if_pos g4] | rw [if_neg g4] | rw [if_pos g20] | rw [if_neg g20] | rw [if_pos h20] | rw [if_neg h20] | rw [if_pos g31] | rw [if_neg g31] | rw [if_neg (show ¬ true = false by decide)] | rw [if_pos (show false = false from rfl)] | dsimp only)); first | done | rfl) | rfl | (simp [cMo, g4, g20, h20, g31]; done)) ?_
        exact W.iret (v := cMo N S z) hx hb hr (fun t ht hW => ⟨rfl, ht⟩) (fun _ h => by cases h) d_A_mode_38
    · have h20 := of_decide_eq_true (bi_nz.mp g20)
      refine lv_iinc (k := 0) (v := 3) (lv' := [(1, .int 3), (0, .ref (q 0))]) hx hb d_A_mode_23 hl rfl (by decide) (by decide) rfl (fun ls hl => ?_)
      refine lv_aload_n hx hb d_A_mode_26 rfl (lv_at hl 1 rfl) ?_
      refine va_get (D := D) (ci := 3) (v := .int (cUn z)) (C := R_A) (T := T_A) (N := 11) hx hb hts (in_A) hown hK hP 0 rfl rfl 7 (by decide) (hts _ m_f_A_48) (fun _ h9 => h9) rfl d_A_mode_27 ?_
      refine lv_iconst (v := (-1)) hx hb d_A_mode_30 (by decide) ?_
      refine lv_icmp_eq (tgt := 37) hx hb d_A_mode_31 rfl (fun g31 => ?_) (fun g31 => ?_)
      · refine lv_iload_n hx hb d_A_mode_37 rfl (lv_at hl 0 rfl) ?_
        refine k_top (cMo N S z) (by first | ((try unfold cMo); (repeat (first | rw [if_pos g4] | rw [if_neg g4] | rw [if_pos g20] | rw [if_neg g20] | rw [if_pos h20] | rw [if_neg h20] | rw [if_pos g31] | rw [if_neg g31] | rw [if_neg (show ¬ true = false by decide)] | rw [if_pos (show false = false from rfl)] | dsimp only)); first | done | rfl) | rfl | (simp [cMo, g4, g20, h20, g31]; done)) ?_
        exact W.iret (v := cMo N S z) hx hb hr (fun t ht hW => ⟨rfl, ht⟩) (fun _ h => by cases h) d_A_mode_38
      · refine lv_iinc (k := 0) (v := 7) (lv' := [(1, .int 7), (0, .ref (q 0))]) hx hb d_A_mode_34 hl rfl (by decide) (by decide) rfl (fun ls hl => ?_)
        refine lv_iload_n hx hb d_A_mode_37 rfl (lv_at hl 0 rfl) ?_
        refine k_top (cMo N S z) (by first | ((try unfold cMo); (repeat (first | rw [if_pos g4] | rw [if_neg g4] | rw [if_pos g20] | rw [if_neg g20] | rw [if_pos h20] | rw [if_neg h20] | rw [if_pos g31] | rw [if_neg g31] | rw [if_neg (show ¬ true = false by decide)] | rw [if_pos (show false = false from rfl)] | dsimp only)); first | done | rfl) | rfl | (simp [cMo, g4, g20, h20, g31]; done)) ?_
        exact W.iret (v := cMo N S z) hx hb hr (fun t ht hW => ⟨rfl, ht⟩) (fun _ h => by cases h) d_A_mode_38
set_option maxHeartbeats 4000000 in
set_option maxRecDepth 100000 in
theorem c_DualParityArray_logged (l : Launch) (D : va_G) (cA : ClassId) (q : Nat → Nat) (N S : Nat) (z : CS) (gN4 : 4 ≤ N) (gN : N ≤ 10) (gS1 : 1 ≤ S) (gS : S ≤ 16) : Met l y_A_logged w_A_logged ({ frames := 1, cells := 0, slots := 0, locals := 20 }) (va_Pc [.ref (q 0)] (k_R D [(cA, .int)] (wC cA q N S z))) (k_Ro (some (.int (cLs z)))) 0 0 (fun _ => False) := by
  refine Met.ofW (cc := b_A_logged) (maxL := 1) (ret := (some .int)) (by decide) rfl ?_
  intro p e s m args below meth c s₁ B hml hv
  obtain ⟨rfl, hP, hK⟩ := hv
  have hx := B.exec
  have hb := B.bytes
  have hr := B.returns
  have hts0 := atoms_spec (ws := w_A_logged) B.pre
  have hts : ∀ w ∈ lw_g, w.before _ s = true := fun w h => hts0 w (List.mem_cons_of_mem _ h)
  have hown : s.vm.findClass R_A = some m.cls := findClass_of_methodNamed B.named
  have hlocks := B.notSynchronized
  have hl := lv_entry ([.ref (q 0)]) (n := 1) (Nat.le_of_ble_eq_true rfl)
  rw [lg_entry_eq]
  generalize (lg_sl ([.ref (q 0)]) ++ List.replicate (1 - (lg_sl ([.ref (q 0)])).length) Slot.unset).toArray = ls at hl ⊢
  have hl : lv_has ls 1 [(0, .ref (q 0))] := hl
  refine lv_aload_n hx hb d_A_logged_0 rfl (lv_at hl 0 rfl) ?_
  refine va_get (D := D) (ci := 3) (v := .ref (q 6)) (C := R_A) (T := T_A) (N := 11) hx hb hts (in_A) hown hK hP 0 rfl rfl 3 (by decide) (hts _ m_f_A_34) (fun _ h9 => h9) rfl d_A_logged_1 ?_
  refine k_roi (va_runV (C := R_L) (As := []) (rest := []) ⟨hx, hb, hml, hown, hts⟩ (c_Log_sealedStripe l D cA (q 6) (q 7) N (cLs z) (cLf z) (cLc z) (cX z) (by omega) (by omega)) (k_cwV 0 hts m_code_L_sealedStripe m_ini_L m_l_A_181 m_inst_L_sealedStripe m_sel_L_sealedStripe h_L_sealedStripe rfl rfl ⟨Nat.le_of_ble_eq_true rfl, Nat.le_of_ble_eq_true rfl⟩) (k_pR hP hK [6, 7] rfl 6 1 rfl rfl) rfl rfl hl.1 rfl (lv_room (Nat.le_of_ble_eq_true rfl)) d_A_logged_4 ⟨Nat.zero_le _, Nat.zero_le _⟩) ?_
  exact W.iret (v := cLs z) hx hb hr (fun t ht hW => ⟨rfl, ht⟩) (fun _ h => by cases h) d_A_logged_7
set_option maxHeartbeats 4000000 in
set_option maxRecDepth 100000 in
theorem c_DualParityArray_spares (l : Launch) (D : va_G) (cA : ClassId) (q : Nat → Nat) (N S : Nat) (z : CS) (gN4 : 4 ≤ N) (gN : N ≤ 10) (gS1 : 1 ≤ S) (gS : S ≤ 16) : Met l y_A_spares w_A_spares ({ frames := 0, cells := 0, slots := 0, locals := 0 }) (va_Pc [.ref (q 0)] (k_R D [(cA, .int)] (wC cA q N S z))) (k_Ro (some (.int (cLe z)))) 0 0 (fun _ => False) := by
  refine Met.ofW (cc := b_A_spares) (maxL := 1) (ret := (some .int)) (by decide) rfl ?_
  intro p e s m args below meth c s₁ B hml hv
  obtain ⟨rfl, hP, hK⟩ := hv
  have hx := B.exec
  have hb := B.bytes
  have hr := B.returns
  have hts0 := atoms_spec (ws := w_A_spares) B.pre
  have hts : ∀ w ∈ lw_g, w.before _ s = true := fun w h => hts0 w (List.mem_cons_of_mem _ h)
  have hown : s.vm.findClass R_A = some m.cls := findClass_of_methodNamed B.named
  have hlocks := B.notSynchronized
  have hl := lv_entry ([.ref (q 0)]) (n := 1) (Nat.le_of_ble_eq_true rfl)
  rw [lg_entry_eq]
  generalize (lg_sl ([.ref (q 0)]) ++ List.replicate (1 - (lg_sl ([.ref (q 0)])).length) Slot.unset).toArray = ls at hl ⊢
  have hl : lv_has ls 1 [(0, .ref (q 0))] := hl
  refine lv_aload_n hx hb d_A_spares_0 rfl (lv_at hl 0 rfl) ?_
  refine va_get (D := D) (ci := 3) (v := .int (cLe z)) (C := R_A) (T := T_A) (N := 11) hx hb hts (in_A) hown hK hP 0 rfl rfl 5 (by decide) (hts _ m_f_A_45) (fun _ h9 => h9) rfl d_A_spares_1 ?_
  exact W.iret (v := cLe z) hx hb hr (fun t ht hW => ⟨rfl, ht⟩) (fun _ h => by cases h) d_A_spares_4
set_option maxHeartbeats 4000000 in
set_option maxRecDepth 100000 in
theorem c_DualParityArray_reads (l : Launch) (D : va_G) (cA : ClassId) (q : Nat → Nat) (N S : Nat) (z : CS) (gN4 : 4 ≤ N) (gN : N ≤ 10) (gS1 : 1 ≤ S) (gS : S ≤ 16) : Met l y_A_reads w_A_reads ({ frames := 0, cells := 0, slots := 0, locals := 0 }) (va_Pc [.ref (q 0)] (k_R D [(cA, .int)] (wC cA q N S z))) (k_Ro (some (.int (cRc z)))) 0 0 (fun _ => False) := by
  refine Met.ofW (cc := b_A_reads) (maxL := 1) (ret := (some .int)) (by decide) rfl ?_
  intro p e s m args below meth c s₁ B hml hv
  obtain ⟨rfl, hP, hK⟩ := hv
  have hx := B.exec
  have hb := B.bytes
  have hr := B.returns
  have hts0 := atoms_spec (ws := w_A_reads) B.pre
  have hts : ∀ w ∈ lw_g, w.before _ s = true := fun w h => hts0 w (List.mem_cons_of_mem _ h)
  have hown : s.vm.findClass R_A = some m.cls := findClass_of_methodNamed B.named
  have hlocks := B.notSynchronized
  have hl := lv_entry ([.ref (q 0)]) (n := 1) (Nat.le_of_ble_eq_true rfl)
  rw [lg_entry_eq]
  generalize (lg_sl ([.ref (q 0)]) ++ List.replicate (1 - (lg_sl ([.ref (q 0)])).length) Slot.unset).toArray = ls at hl ⊢
  have hl : lv_has ls 1 [(0, .ref (q 0))] := hl
  refine lv_aload_n hx hb d_A_reads_0 rfl (lv_at hl 0 rfl) ?_
  refine va_get (D := D) (ci := 3) (v := .int (cRc z)) (C := R_A) (T := T_A) (N := 11) hx hb hts (in_A) hown hK hP 0 rfl rfl 9 (by decide) (hts _ m_f_A_69) (fun _ h9 => h9) rfl d_A_reads_1 ?_
  exact W.iret (v := cRc z) hx hb hr (fun t ht hW => ⟨rfl, ht⟩) (fun _ h => by cases h) d_A_reads_4
set_option maxHeartbeats 4000000 in
set_option maxRecDepth 100000 in
theorem c_DualParityArray_writes (l : Launch) (D : va_G) (cA : ClassId) (q : Nat → Nat) (N S : Nat) (z : CS) (gN4 : 4 ≤ N) (gN : N ≤ 10) (gS1 : 1 ≤ S) (gS : S ≤ 16) : Met l y_A_writes w_A_writes ({ frames := 0, cells := 0, slots := 0, locals := 0 }) (va_Pc [.ref (q 0)] (k_R D [(cA, .int)] (wC cA q N S z))) (k_Ro (some (.int (cWc z)))) 0 0 (fun _ => False) := by
  refine Met.ofW (cc := b_A_writes) (maxL := 1) (ret := (some .int)) (by decide) rfl ?_
  intro p e s m args below meth c s₁ B hml hv
  obtain ⟨rfl, hP, hK⟩ := hv
  have hx := B.exec
  have hb := B.bytes
  have hr := B.returns
  have hts0 := atoms_spec (ws := w_A_writes) B.pre
  have hts : ∀ w ∈ lw_g, w.before _ s = true := fun w h => hts0 w (List.mem_cons_of_mem _ h)
  have hown : s.vm.findClass R_A = some m.cls := findClass_of_methodNamed B.named
  have hlocks := B.notSynchronized
  have hl := lv_entry ([.ref (q 0)]) (n := 1) (Nat.le_of_ble_eq_true rfl)
  rw [lg_entry_eq]
  generalize (lg_sl ([.ref (q 0)]) ++ List.replicate (1 - (lg_sl ([.ref (q 0)])).length) Slot.unset).toArray = ls at hl ⊢
  have hl : lv_has ls 1 [(0, .ref (q 0))] := hl
  refine lv_aload_n hx hb d_A_writes_0 rfl (lv_at hl 0 rfl) ?_
  refine va_get (D := D) (ci := 3) (v := .int (cWc z)) (C := R_A) (T := T_A) (N := 11) hx hb hts (in_A) hown hK hP 0 rfl rfl 10 (by decide) (hts _ m_f_A_184) (fun _ h9 => h9) rfl d_A_writes_1 ?_
  exact W.iret (v := cWc z) hx hb hr (fun t ht hW => ⟨rfl, ht⟩) (fun _ h => by cases h) d_A_writes_4
