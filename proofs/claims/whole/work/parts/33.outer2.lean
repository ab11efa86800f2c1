set_option maxHeartbeats 4000000 in
set_option maxRecDepth 100000 in
theorem c_DualParityArray_read (l : Launch) (D : va_G) (cA : ClassId) (q : Nat → Nat) (N S : Nat) (z : CS) (gN4 : 4 ≤ N) (gN : N ≤ 10) (gS1 : 1 ≤ S) (gS : S ≤ 16) (x : Int32) : Met l y_A_read w_A_read ({ frames := 5, cells := 0, slots := 0, locals := 118 }) (va_Pc [.ref (q 0), .int x] (k_WT D [(cA, .int)] (wC cA q N S z))) (va_Ql (fun (r : Int64) (_ : Unit) => r = (cRd N S x z).1) (fun _ t => va_P D vwCl (wC cA q N S ((cRd N S x z).2)) t.heap) (k_A (wC cA q N S z))) 0 0 (k_A (wC cA q N S z)) := by
  refine Met.ofW (cc := b_A_read) (maxL := 6) (ret := (some .long)) (by decide) rfl ?_
  intro p e s m args below meth c s₁ B hml hv
  obtain ⟨rfl, hP, hK, hD0, hTb⟩ := hv
  have hx := B.exec
  have hb := B.bytes
  have hr := B.returns
  have hts0 := atoms_spec (ws := w_A_read) B.pre
  have hts : ∀ w ∈ lw_g, w.before _ s = true := fun w h => hts0 w (List.mem_cons_of_mem _ h)
  have hown : s.vm.findClass R_A = some m.cls := findClass_of_methodNamed B.named
  have hlocks := B.notSynchronized
  have hD := k_Dself hD0
  have hS : va_S (k_A (wC cA q N S z)) s.heap s.heap [] := va_S.rf
  have hl := lv_entry ([.ref (q 0), .int x]) (n := 6) (Nat.le_of_ble_eq_true rfl)
  rw [lg_entry_eq]
  generalize (lg_sl ([.ref (q 0), .int x]) ++ List.replicate (6 - (lg_sl ([.ref (q 0), .int x])).length) Slot.unset).toArray = ls at hl ⊢
  have hl : lv_has ls 6 [(0, .ref (q 0)), (1, .int x)] := hl
  have hSN : S * (N - 2) ≤ 16 * 8 := Nat.mul_le_mul gS (by omega)
  refine lv_aload_n hx hb d_A_read_0 rfl (lv_at hl 0 rfl) ?_
  refine lv_iload_n hx hb d_A_read_1 rfl (lv_at hl 1 rfl) ?_
  refine k_roi (va_runV (C := R_A) (As := [.int x]) (rest := []) ⟨hx, hb, hml, hown, hts⟩ (c_DualParityArray_hasBlock l D cA q N S z (by omega) (by omega) (by omega) (by omega) x) (k_cwV 1 hts m_code_A_hasBlock m_ini_A m_l_A_51 m_inst_A_hasBlock m_sel_A_hasBlock h_A_hasBlock rfl rfl ⟨Nat.le_of_ble_eq_true rfl, Nat.le_of_ble_eq_true rfl⟩) (k_pR hP hK [0, 1, 2, 3, 4, 5, 6, 7] rfl 0 3 rfl rfl) rfl rfl hl.1 rfl (lv_room (Nat.le_of_ble_eq_true rfl)) d_A_read_2 ⟨Nat.zero_le _, Nat.zero_le _⟩) ?_
  refine lv_if_ne (tgt := 12) hx hb d_A_read_5 rfl (fun g5 => ?_) (fun g5 => ?_)
  · have h5 := of_decide_eq_true (bi_nz.mp g5)
    obtain ⟨hx1, hx2⟩ := tn_of (by omega) h5
    have hq1 : tn x % (N - 2) < N - 2 := Nat.mod_lt _ (by omega)
    have hq2 : tn x / (N - 2) < S := (Nat.div_lt_iff_lt_mul (by omega)).mpr hx1
    have hl : lv_has ls 6 [(0, .ref (q 0)), (1, .int (nI (tn x)))] := by rw [← hx2]; exact hl
    refine lv_aload_n hx hb d_A_read_12 rfl (lv_at hl 0 rfl) ?_
    refine k_roi (va_runV (C := R_A) (As := []) (rest := []) ⟨hx, hb, hml, hown, hts⟩ (c_DualParityArray_refusal l D cA q N S z (by omega) (by omega) (by omega) (by omega)) (k_cwV 0 hts m_code_A_refusal m_ini_A m_l_A_57 m_inst_A_refusal m_sel_A_refusal h_A_refusal rfl rfl ⟨Nat.le_of_ble_eq_true rfl, Nat.le_of_ble_eq_true rfl⟩) (k_pR hP hK [0, 1, 2, 3, 4, 5, 6, 7] rfl 0 3 rfl rfl) rfl rfl hl.1 rfl (lv_room (Nat.le_of_ble_eq_true rfl)) d_A_read_13 ⟨Nat.zero_le _, Nat.zero_le _⟩) ?_
    refine lv_istore_n (lv' := [(2, .int (cRef N S z)), (0, .ref (q 0)), (1, .int (nI (tn x)))]) hx hb d_A_read_16 rfl hl (by decide) rfl (fun ls hl => ?_)
    refine lv_iload_n hx hb d_A_read_17 rfl (lv_at hl 0 rfl) ?_
    refine lv_if_eq (tgt := 24) hx hb d_A_read_18 rfl (fun g18 => ?_) (fun g18 => ?_)
    · refine lv_iload_n hx hb d_A_read_24 rfl (lv_at hl 2 rfl) ?_
      refine lv_aload_n hx hb d_A_read_25 rfl (lv_at hl 1 rfl) ?_
      refine va_get (D := D) (ci := 3) (v := .int (nI (N - 2))) (C := R_A) (T := T_A) (N := 11) hx hb hts (in_A) hown hK hP 0 rfl rfl 1 (by decide) (hts _ m_f_A_17) (fun _ h9 => h9) rfl d_A_read_26 ?_
      refine lv_idiv hx hb d_A_read_29 (nI_ne0 (by omega) (by omega)) ?_
      refine k_top (nI ((tn x) / (N - 2))) (pk_div (a := tn x) (d := N - 2) (by omega) (by omega) (by omega)) ?_
      refine lv_istore_n (lv' := [(3, .int (nI ((tn x) / (N - 2)))), (2, .int (cRef N S z)), (0, .ref (q 0)), (1, .int (nI (tn x)))]) hx hb d_A_read_30 rfl hl (by decide) rfl (fun ls hl => ?_)
      refine lv_iload_n hx hb d_A_read_31 rfl (lv_at hl 3 rfl) ?_
      refine lv_aload_n hx hb d_A_read_32 rfl (lv_at hl 2 rfl) ?_
      refine va_get (D := D) (ci := 3) (v := .int (nI (N - 2))) (C := R_A) (T := T_A) (N := 11) hx hb hts (in_A) hown hK hP 0 rfl rfl 1 (by decide) (hts _ m_f_A_17) (fun _ h9 => h9) rfl d_A_read_33 ?_
      refine lv_irem hx hb d_A_read_36 (nI_ne0 (by omega) (by omega)) ?_
      refine k_top (nI ((tn x) % (N - 2))) (pk_rem (a := tn x) (d := N - 2) (by omega) (by omega) (by omega)) ?_
      refine lv_istore (lv' := [(4, .int (nI ((tn x) % (N - 2)))), (3, .int (nI ((tn x) / (N - 2)))), (2, .int (cRef N S z)), (0, .ref (q 0)), (1, .int (nI (tn x)))]) hx hb d_A_read_37 hl (by decide) rfl (fun ls hl => ?_)
      refine lv_aload_n hx hb d_A_read_39 rfl (lv_at hl 3 rfl) ?_
      refine va_get (D := D) (ci := 3) (v := .ref (q 1)) (C := R_A) (T := T_A) (N := 11) hx hb hts (in_A) hown hK hP 0 rfl rfl 2 (by decide) (hts _ m_f_A_25) (fun _ h9 => h9) rfl d_A_read_40 ?_
      refine lv_iload hx hb d_A_read_43 (lv_at hl 0 rfl) ?_
      refine lv_iload_n hx hb d_A_read_45 rfl (lv_at hl 1 rfl) ?_
      refine k_roi (va_runV (C := R_D) (As := [.int (nI ((tn x) % (N - 2))), .int (nI ((tn x) / (N - 2)))]) (rest := []) ⟨hx, hb, hml, hown, hts⟩ (c_Disks_diskOf l D cA (q 1) (q 2) (q 3) N S (cW z) (cP z) (by omega) (by omega) (by omega) (by omega) ((tn x) % (N - 2)) ((tn x) / (N - 2)) (by omega) (by omega)) (k_cwV 2 hts m_code_D_diskOf m_ini_D m_l_A_61 m_inst_D_diskOf m_sel_D_diskOf h_D_diskOf rfl rfl ⟨Nat.le_of_ble_eq_true rfl, Nat.le_of_ble_eq_true rfl⟩) (k_pR hP hK [1, 2, 3] rfl 1 0 rfl rfl) rfl rfl hl.1 rfl (lv_room (Nat.le_of_ble_eq_true rfl)) d_A_read_46 ⟨Nat.zero_le _, Nat.zero_le _⟩) ?_
      have f1 : dk N ((tn x) % (N - 2)) ((tn x) / (N - 2)) < N := dk_lt (by omega)
      refine lv_istore (lv' := [(5, .int (nI (dk N ((tn x) % (N - 2)) ((tn x) / (N - 2))))), (4, .int (nI ((tn x) % (N - 2)))), (3, .int (nI ((tn x) / (N - 2)))), (2, .int (cRef N S z)), (0, .ref (q 0)), (1, .int (nI (tn x)))]) hx hb d_A_read_49 hl (by decide) rfl (fun ls hl => ?_)
      refine lv_aload_n hx hb d_A_read_51 rfl (lv_at hl 4 rfl) ?_
      refine va_get (D := D) (ci := 3) (v := .ref (q 1)) (C := R_A) (T := T_A) (N := 11) hx hb hts (in_A) hown hK hP 0 rfl rfl 2 (by decide) (hts _ m_f_A_25) (fun _ h9 => h9) rfl d_A_read_52 ?_
      refine lv_iload hx hb d_A_read_55 (lv_at hl 0 rfl) ?_
      refine lv_iload_n hx hb d_A_read_57 rfl (lv_at hl 2 rfl) ?_
      refine k_roi (va_runV (C := R_D) (As := [.int (nI (dk N ((tn x) % (N - 2)) ((tn x) / (N - 2)))), .int (nI ((tn x) / (N - 2)))]) (rest := []) ⟨hx, hb, hml, hown, hts⟩ (c_Disks_available l D cA (q 1) (q 2) (q 3) N S (cW z) (cP z) (by omega) (by omega) (by omega) (by omega) (dk N ((tn x) % (N - 2)) ((tn x) / (N - 2))) (nI ((tn x) / (N - 2))) (by omega)) (k_cwV 2 hts m_code_D_available m_ini_D m_l_A_65 m_inst_D_available m_sel_D_available h_D_available rfl rfl ⟨Nat.le_of_ble_eq_true rfl, Nat.le_of_ble_eq_true rfl⟩) (k_pR hP hK [1, 2, 3] rfl 1 0 rfl rfl) rfl rfl hl.1 rfl (lv_room (Nat.le_of_ble_eq_true rfl)) d_A_read_58 ⟨Nat.zero_le _, Nat.zero_le _⟩) ?_
      refine lv_if_eq (tgt := 88) hx hb d_A_read_61 rfl (fun g61 => ?_) (fun g61 => ?_)
      · have h61 := of_decide_eq_false (bi_z.mp g61)
        refine lv_aload_n hx hb d_A_read_88 rfl (lv_at hl 4 rfl) ?_
        refine lv_iload_n hx hb d_A_read_89 rfl (lv_at hl 2 rfl) ?_
        refine k_wrv (va_runV (C := R_A) (As := [.int (nI ((tn x) / (N - 2)))]) (rest := []) ⟨hx, hb, hml, hown, hts⟩ (c_DualParityArray_readAvailableCells l D cA q N S z (by omega) (by omega) (by omega) (by omega) ((tn x) / (N - 2)) (by omega)) (k_cwV 1 hts m_code_A_readAvailableCells m_ini_A m_l_A_79 m_inst_A_readAvailableCells m_sel_A_readAvailableCells h_A_readAvailableCells rfl rfl ⟨Nat.le_of_ble_eq_true rfl, Nat.le_of_ble_eq_true rfl⟩) (k_pT hP hK hD hTb hS [0, 1, 2, 3, 4, 5, 6, 7] (by decide) rfl 0 3 rfl rfl) rfl rfl hl.1 rfl (lv_room (Nat.le_of_ble_eq_true rfl)) d_A_read_90 ⟨Nat.zero_le _, Nat.zero_le _⟩) hS hD [0, 1, 2, 3, 4, 5, 6, 7] rfl (fun u H1 locs _ hk hP1 hS => ?_)
        obtain ⟨u2, hu2⟩ : ∃ w, w = cRA N S ((tn x) / (N - 2)) z := ⟨_, rfl⟩
        have hP : va_P D vwCl (wC cA q N S u2) H1 := by rw [hu2]; exact hP1
        have hD : va_D (k_A (wC cA q N S z)) (wC cA q N S u2) := k_D hD rfl
        generalize H1 = H at hP hS ⊢
        refine lv_aload_n hx hb d_A_read_93 rfl (lv_at hl 4 rfl) ?_
        refine va_get (D := D) (ci := 3) (v := .ref (q 4)) (C := R_A) (T := T_A) (N := 11) hx hb hts (in_A) hown hK hP 0 rfl rfl 4 (by decide) (hts _ m_f_A_41) (fun _ h9 => h9) rfl d_A_read_94 ?_
        refine lv_iload hx hb d_A_read_97 (lv_at hl 1 rfl) ?_
        refine k_roi (va_runV (C := R_S) (As := [.int (nI ((tn x) % (N - 2)))]) (rest := []) ⟨hx, hb, hml, hown, hts⟩ (c_Stripe_valueOf l D cA (q 4) (q 5) N (cV u2) (by omega) (by omega) ((tn x) % (N - 2)) (by omega)) (k_cwV 1 hts m_code_S_valueOf m_ini_S m_l_A_82 m_inst_S_valueOf m_sel_S_valueOf h_S_valueOf rfl rfl ⟨Nat.le_of_ble_eq_true rfl, Nat.le_of_ble_eq_true rfl⟩) (k_pR hP hK [4, 5] rfl 4 2 rfl rfl) rfl rfl hl.1 rfl (lv_room (Nat.le_of_ble_eq_true rfl)) d_A_read_99 ⟨Nat.zero_le _, Nat.zero_le _⟩) ?_
        refine k_rol (va_runS (As := [.int ((cV u2) ((tn x) % (N - 2)))]) (rest := []) ⟨hx, hb, hml, hown, hts⟩ (c_DualParityArray_unsigned l D ((cV u2) ((tn x) % (N - 2)))) (k_cwS 1 hts m_code_A_unsigned m_ini_A m_l_A_75 m_stat_A_unsigned h_A_unsigned rfl rfl ⟨Nat.le_of_ble_eq_true rfl, Nat.le_of_ble_eq_true rfl⟩) (k_s0) rfl rfl hl.1 rfl (lv_room (Nat.le_of_ble_eq_true rfl)) d_A_read_102 ⟨Nat.zero_le _, Nat.zero_le _⟩) ?_
        have e3 : (cRd N S x z).2 = u2 := by subst hu2; first | ((try unfold cRd); (repeat (first | rw [if_pos g5] | rw [if_neg g5] | rw [if_pos h5] | rw [if_neg h5] | rw [if_pos g18] | rw [if_neg g18] | rw [if_pos g61] | rw [if_neg g61] | rw [if_pos h61] | rw [if_neg h61] | rw [if_neg (show ¬ true = false by decide)] | rw [if_pos (show false = false from rfl)] | dsimp only)); first | done | rfl) | rfl | (simp [cRd, g5, h5, g18, g61, h61]; done)
        exact W.lret (v := un64 ((cV u2) ((tn x) % (N - 2)))) hx hb hr (fun t ht hW => ⟨⟨_, (), rfl, by subst hu2; first | ((try unfold cRd); (repeat (first | rw [if_pos g5] | rw [if_neg g5] | rw [if_pos h5] | rw [if_neg h5] | rw [if_pos g18] | rw [if_neg g18] | rw [if_pos g61] | rw [if_neg g61] | rw [if_pos h61] | rw [if_neg h61] | rw [if_neg (show ¬ true = false by decide)] | rw [if_pos (show false = false from rfl)] | dsimp only)); first | done | rfl) | rfl | (simp [cRd, g5, h5, g18, g61, h61]; done), by show va_P D vwCl (wC cA q N S ((cRd N S x z).2)) t.heap; rw [ht, e3]; exact hP⟩, hS.F ht⟩) hS.2.2 d_A_read_105
      · have h61 := of_decide_eq_true (bi_nz.mp g61)
        refine lv_aload_n hx hb d_A_read_64 rfl (lv_at hl 4 rfl) ?_
        refine lv_dup hx hb d_A_read_65 rfl ?_
        refine va_get (D := D) (ci := 3) (v := .int (cRc z)) (C := R_A) (T := T_A) (N := 11) hx hb hts (in_A) hown hK hP 0 rfl rfl 9 (by decide) (hts _ m_f_A_69) (fun _ h9 => h9) rfl d_A_read_66 ?_
        refine lv_iconst (v := 1) hx hb d_A_read_69 (by decide) ?_
        refine lv_iadd hx hb d_A_read_70 ?_
        refine va_put (D := D) (ci := 3) (v := .int ((cRc z) + 1)) (ty := .int) (C := R_A) (T := T_A) (N := 11) hx hb hts (in_A) ty_A tyok_A nm_A hown hK hP hD hS 0 rfl rfl 9 (by decide) (hts _ m_f_A_69) (fun _ h9 => h9) rfl (by decide +kernel) rfl rfl (Nat.le_of_ble_eq_true rfl) d_A_read_71 (fun H locs hP hD hS => ?_)
        have hP : va_P D vwCl (wC cA q N S (sRc z ((cRc z) + 1))) H := hP
        have hD : va_D (k_A (wC cA q N S z)) (wC cA q N S (sRc z ((cRc z) + 1))) := hD
        refine lv_aload_n hx hb d_A_read_74 rfl (lv_at hl 4 rfl) ?_
        refine va_get (D := D) (ci := 3) (v := .ref (q 1)) (C := R_A) (T := T_A) (N := 11) hx hb hts (in_A) hown hK hP 0 rfl rfl 2 (by decide) (hts _ m_f_A_25) (fun _ h9 => h9) rfl d_A_read_75 ?_
        refine lv_iload hx hb d_A_read_78 (lv_at hl 0 rfl) ?_
        refine lv_iload_n hx hb d_A_read_80 rfl (lv_at hl 2 rfl) ?_
        refine k_roi (va_runV (C := R_D) (As := [.int (nI (dk N ((tn x) % (N - 2)) ((tn x) / (N - 2)))), .int (nI ((tn x) / (N - 2)))]) (rest := []) ⟨hx, hb, hml, hown, hts⟩ (c_Disks_wordAt l D cA (q 1) (q 2) (q 3) N S (cW (sRc z ((cRc z) + 1))) (cP (sRc z ((cRc z) + 1))) (by omega) (by omega) (by omega) (by omega) (dk N ((tn x) % (N - 2)) ((tn x) / (N - 2))) ((tn x) / (N - 2)) (by omega) (by omega)) (k_cwV 2 hts m_code_D_wordAt m_ini_D m_l_A_72 m_inst_D_wordAt m_sel_D_wordAt h_D_wordAt rfl rfl ⟨Nat.le_of_ble_eq_true rfl, Nat.le_of_ble_eq_true rfl⟩) (k_pR hP hK [1, 2, 3] rfl 1 0 rfl rfl) rfl rfl hl.1 rfl (lv_room (Nat.le_of_ble_eq_true rfl)) d_A_read_81 ⟨Nat.zero_le _, Nat.zero_le _⟩) ?_
        refine k_rol (va_runS (As := [.int ((cW (sRc z ((cRc z) + 1))) ((dk N ((tn x) % (N - 2)) ((tn x) / (N - 2))) * S + ((tn x) / (N - 2))))]) (rest := []) ⟨hx, hb, hml, hown, hts⟩ (c_DualParityArray_unsigned l D ((cW (sRc z ((cRc z) + 1))) ((dk N ((tn x) % (N - 2)) ((tn x) / (N - 2))) * S + ((tn x) / (N - 2))))) (k_cwS 1 hts m_code_A_unsigned m_ini_A m_l_A_75 m_stat_A_unsigned h_A_unsigned rfl rfl ⟨Nat.le_of_ble_eq_true rfl, Nat.le_of_ble_eq_true rfl⟩) (k_s0) rfl rfl hl.1 rfl (lv_room (Nat.le_of_ble_eq_true rfl)) d_A_read_84 ⟨Nat.zero_le _, Nat.zero_le _⟩) ?_
        have e4 : (cRd N S x z).2 = sRc z ((cRc z) + 1) := by first | ((try unfold cRd); (repeat (first | rw [if_pos g5] | rw [if_neg g5] | rw [if_pos h5] | rw [if_neg h5] | rw [if_pos g18] | rw [if_neg g18] | rw [if_pos g61] | rw [if_neg g61] | rw [if_pos h61] | rw [if_neg h61] | rw [if_neg (show ¬ true = false by decide)] | rw [if_pos (show false = false from rfl)] | dsimp only)); first | done | rfl) | rfl | (simp [cRd, g5, h5, g18, g61, h61]; done)
        exact W.lret (v := un64 ((cW (sRc z ((cRc z) + 1))) ((dk N ((tn x) % (N - 2)) ((tn x) / (N - 2))) * S + ((tn x) / (N - 2))))) hx hb hr (fun t ht hW => ⟨⟨_, (), rfl, by first | ((try unfold cRd); (repeat (first | rw [if_pos g5] | rw [if_neg g5] | rw [if_pos h5] | rw [if_neg h5] | rw [if_pos g18] | rw [if_neg g18] | rw [if_pos g61] | rw [if_neg g61] | rw [if_pos h61] | rw [if_neg h61] | rw [if_neg (show ¬ true = false by decide)] | rw [if_pos (show false = false from rfl)] | dsimp only)); first | done | rfl) | rfl | (simp [cRd, g5, h5, g18, g61, h61]; done), by show va_P D vwCl (wC cA q N S ((cRd N S x z).2)) t.heap; rw [ht, e4]; exact hP⟩, hS.F ht⟩) hS.2.2 d_A_read_87
    · refine lv_iload_n hx hb d_A_read_21 rfl (lv_at hl 0 rfl) ?_
      refine lv_i2l (v := (cRef N S z).toInt64) hx hb d_A_read_22 rfl ?_
      have e5 : (cRd N S x z).2 = z := by first | ((try unfold cRd); (repeat (first | rw [if_pos g5] | rw [if_neg g5] | rw [if_pos h5] | rw [if_neg h5] | rw [if_pos g18] | rw [if_neg g18] | rw [if_neg (show ¬ true = false by decide)] | rw [if_pos (show false = false from rfl)] | dsimp only)); first | done | rfl) | rfl | (simp [cRd, g5, h5, g18]; done)
      exact W.lret (v := (cRef N S z).toInt64) hx hb hr (fun t ht hW => ⟨⟨_, (), rfl, by first | ((try unfold cRd); (repeat (first | rw [if_pos g5] | rw [if_neg g5] | rw [if_pos h5] | rw [if_neg h5] | rw [if_pos g18] | rw [if_neg g18] | rw [if_neg (show ¬ true = false by decide)] | rw [if_pos (show false = false from rfl)] | dsimp only)); first | done | rfl) | rfl | (simp [cRd, g5, h5, g18]; done), by show va_P D vwCl (wC cA q N S ((cRd N S x z).2)) t.heap; rw [ht, e5]; exact hP⟩, hS.F ht⟩) hS.2.2 d_A_read_23
  · have h5 := of_decide_eq_false (bi_z.mp g5)
    refine lv_ldc2 (v := (-1)) hx hb hown (hts _ m_c_A_55) d_A_read_8 ?_
    have e6 : (cRd N S x z).2 = z := by first | ((try unfold cRd); (repeat (first | rw [if_pos g5] | rw [if_neg g5] | rw [if_pos h5] | rw [if_neg h5] | rw [if_neg (show ¬ true = false by decide)] | rw [if_pos (show false = false from rfl)] | dsimp only)); first | done | rfl) | rfl | (simp [cRd, g5, h5]; done)
    exact W.lret (v := (-1)) hx hb hr (fun t ht hW => ⟨⟨_, (), rfl, by first | ((try unfold cRd); (repeat (first | rw [if_pos g5] | rw [if_neg g5] | rw [if_pos h5] | rw [if_neg h5] | rw [if_neg (show ¬ true = false by decide)] | rw [if_pos (show false = false from rfl)] | dsimp only)); first | done | rfl) | rfl | (simp [cRd, g5, h5]; done), by show va_P D vwCl (wC cA q N S ((cRd N S x z).2)) t.heap; rw [ht, e6]; exact hP⟩, hS.F ht⟩) hS.2.2 d_A_read_11
set_option maxHeartbeats 4000000 in
set_option maxRecDepth 100000 in
theorem c_DualParityArray_writeRun (l : Launch) (D : va_G) (cA : ClassId) (q : Nat → Nat) (N S : Nat) (z : CS) (gN4 : 4 ≤ N) (gN : N ≤ 10) (gS1 : 1 ≤ S) (gS : S ≤ 16) (x n v : Int32) : Met l y_A_writeRun w_A_writeRun ({ frames := 5, cells := 0, slots := 0, locals := 122 }) (va_Pc [.ref (q 0), .int x, .int n, .int v] (k_WT D [(cA, .int)] (wC cA q N S z))) (va_Qi (fun (r : Int32) (_ : Unit) => r = (cWRun N S x n v z).1) (fun _ t => va_P D vwCl (wC cA q N S ((cWRun N S x n v z).2)) t.heap) (k_A (wC cA q N S z))) 0 0 (k_A (wC cA q N S z)) := by
  refine Met.ofW (cc := b_A_writeRun) (maxL := 11) (ret := (some .int)) (by decide) rfl ?_
  intro p e s m args below meth c s₁ B hml hv
  obtain ⟨rfl, hP, hK, hD0, hTb⟩ := hv
  have hx := B.exec
  have hb := B.bytes
  have hr := B.returns
  have hts0 := atoms_spec (ws := w_A_writeRun) B.pre
  have hts : ∀ w ∈ lw_g, w.before _ s = true := fun w h => hts0 w (List.mem_cons_of_mem _ h)
  have hown : s.vm.findClass R_A = some m.cls := findClass_of_methodNamed B.named
  have hlocks := B.notSynchronized
  have hD := k_Dself hD0
  have hS : va_S (k_A (wC cA q N S z)) s.heap s.heap [] := va_S.rf
  have hl := lv_entry ([.ref (q 0), .int x, .int n, .int v]) (n := 11) (Nat.le_of_ble_eq_true rfl)
  rw [lg_entry_eq]
  generalize (lg_sl ([.ref (q 0), .int x, .int n, .int v]) ++ List.replicate (11 - (lg_sl ([.ref (q 0), .int x, .int n, .int v])).length) Slot.unset).toArray = ls at hl ⊢
  have hl : lv_has ls 11 [(0, .ref (q 0)), (1, .int x), (2, .int n), (3, .int v)] := hl
  have hSN : S * (N - 2) ≤ 16 * 8 := Nat.mul_le_mul gS (by omega)
  refine lv_aload_n hx hb d_A_writeRun_0 rfl (lv_at hl 0 rfl) ?_
  refine lv_iload_n hx hb d_A_writeRun_1 rfl (lv_at hl 1 rfl) ?_
  refine k_roi (va_runV (C := R_A) (As := [.int x]) (rest := []) ⟨hx, hb, hml, hown, hts⟩ (c_DualParityArray_hasBlock l D cA q N S z (by omega) (by omega) (by omega) (by omega) x) (k_cwV 1 hts m_code_A_hasBlock m_ini_A m_l_A_51 m_inst_A_hasBlock m_sel_A_hasBlock h_A_hasBlock rfl rfl ⟨Nat.le_of_ble_eq_true rfl, Nat.le_of_ble_eq_true rfl⟩) (k_pR hP hK [0, 1, 2, 3, 4, 5, 6, 7] rfl 0 3 rfl rfl) rfl rfl hl.1 rfl (lv_room (Nat.le_of_ble_eq_true rfl)) d_A_writeRun_2 ⟨Nat.zero_le _, Nat.zero_le _⟩) ?_
  refine lv_if_eq (tgt := 23) hx hb d_A_writeRun_5 rfl (fun g5 => ?_) (fun g5 => ?_)
  · have h5 := of_decide_eq_false (bi_z.mp g5)
    refine lv_iconst (v := (-1)) hx hb d_A_writeRun_23 (by decide) ?_
    have e1 : (cWRun N S x n v z).2 = z := by first | ((try unfold cWRun); (repeat (first | rw [if_pos g5] | rw [if_neg g5] | rw [if_pos h5] | rw [if_neg h5] | rw [if_neg (show ¬ true = false by decide)] | rw [if_pos (show false = false from rfl)] | dsimp only)); first | done | rfl) | rfl | (simp [cWRun, g5, h5]; done)
    exact W.iret (v := (-1)) hx hb hr (fun t ht hW => ⟨⟨_, (), rfl, by first | ((try unfold cWRun); (repeat (first | rw [if_pos g5] | rw [if_neg g5] | rw [if_pos h5] | rw [if_neg h5] | rw [if_neg (show ¬ true = false by decide)] | rw [if_pos (show false = false from rfl)] | dsimp only)); first | done | rfl) | rfl | (simp [cWRun, g5, h5]; done), by show va_P D vwCl (wC cA q N S ((cWRun N S x n v z).2)) t.heap; rw [ht, e1]; exact hP⟩, hS.F ht⟩) hS.2.2 d_A_writeRun_24
  · have h5 := of_decide_eq_true (bi_nz.mp g5)
    obtain ⟨hx1, hx2⟩ := tn_of (by omega) h5
    have hl : lv_has ls 11 [(0, .ref (q 0)), (1, .int (nI (tn x))), (2, .int n), (3, .int v)] := by rw [← hx2]; exact hl
    refine lv_iload_n hx hb d_A_writeRun_8 rfl (lv_at hl 2 rfl) ?_
    refine lv_iconst (v := 1) hx hb d_A_writeRun_9 (by decide) ?_
    refine lv_icmp_lt (tgt := 23) hx hb d_A_writeRun_10 rfl (fun g10 => ?_) (fun g10 => ?_)
    · have h10 := Int32.not_le.mpr g10
      refine lv_iconst (v := (-1)) hx hb d_A_writeRun_23 (by decide) ?_
      have e2 : (cWRun N S x n v z).2 = z := by first | ((try unfold cWRun); (repeat (first | rw [if_pos g5] | rw [if_neg g5] | rw [if_pos h5] | rw [if_neg h5] | rw [if_pos g10] | rw [if_neg g10] | rw [if_pos h10] | rw [if_neg h10] | rw [if_neg (show ¬ true = false by decide)] | rw [if_pos (show false = false from rfl)] | dsimp only)); first | done | rfl) | rfl | (simp [cWRun, g5, h5, g10, h10]; done)
      exact W.iret (v := (-1)) hx hb hr (fun t ht hW => ⟨⟨_, (), rfl, by first | ((try unfold cWRun); (repeat (first | rw [if_pos g5] | rw [if_neg g5] | rw [if_pos h5] | rw [if_neg h5] | rw [if_pos g10] | rw [if_neg g10] | rw [if_pos h10] | rw [if_neg h10] | rw [if_neg (show ¬ true = false by decide)] | rw [if_pos (show false = false from rfl)] | dsimp only)); first | done | rfl) | rfl | (simp [cWRun, g5, h5, g10, h10]; done), by show va_P D vwCl (wC cA q N S ((cWRun N S x n v z).2)) t.heap; rw [ht, e2]; exact hP⟩, hS.F ht⟩) hS.2.2 d_A_writeRun_24
    · have h10 := Int32.not_lt.mp g10
      refine lv_iload_n hx hb d_A_writeRun_13 rfl (lv_at hl 2 rfl) ?_
      refine lv_aload_n hx hb d_A_writeRun_14 rfl (lv_at hl 0 rfl) ?_
      refine k_roi (va_runV (C := R_A) (As := []) (rest := [.int n]) ⟨hx, hb, hml, hown, hts⟩ (c_DualParityArray_blockCount l D cA q N S z (by omega) (by omega) (by omega) (by omega)) (k_cwV 0 hts m_code_A_blockCount m_ini_A m_l_A_89 m_inst_A_blockCount m_sel_A_blockCount h_A_blockCount rfl rfl ⟨Nat.le_of_ble_eq_true rfl, Nat.le_of_ble_eq_true rfl⟩) (k_pR hP hK [0, 1, 2, 3, 4, 5, 6, 7] rfl 0 3 rfl rfl) rfl rfl hl.1 rfl (lv_room (Nat.le_of_ble_eq_true rfl)) d_A_writeRun_15 ⟨Nat.zero_le _, Nat.zero_le _⟩) ?_
      refine lv_iload_n hx hb d_A_writeRun_18 rfl (lv_at hl 1 rfl) ?_
      refine lv_isub hx hb d_A_writeRun_19 ?_
      refine k_top (nI (S * (N - 2) - (tn x))) (pk_sub (a := S * (N - 2)) (b := tn x) (by omega)) ?_
      refine lv_icmp_le (tgt := 25) hx hb d_A_writeRun_20 rfl (fun g20 => ?_) (fun g20 => ?_)
      · have h20 := Int32.not_lt.mpr g20
        obtain ⟨hn1, hn2, hn3⟩ := wr_n (by omega) g10 g20
        have hdl : tn x / (N - 2) ≤ (tn x + tn n - 1) / (N - 2) := Nat.div_le_div_right (by omega)
        have hL : (tn x + tn n - 1) / (N - 2) < S := (Nat.div_lt_iff_lt_mul (by omega)).mpr (by omega)
        have hl : lv_has ls 11 [(0, .ref (q 0)), (1, .int (nI (tn x))), (2, .int (nI (tn n))), (3, .int v)] := by rw [← hn3]; exact hl
        refine lv_aload_n hx hb d_A_writeRun_25 rfl (lv_at hl 0 rfl) ?_
        refine k_roi (va_runV (C := R_A) (As := []) (rest := []) ⟨hx, hb, hml, hown, hts⟩ (c_DualParityArray_refusal l D cA q N S z (by omega) (by omega) (by omega) (by omega)) (k_cwV 0 hts m_code_A_refusal m_ini_A m_l_A_57 m_inst_A_refusal m_sel_A_refusal h_A_refusal rfl rfl ⟨Nat.le_of_ble_eq_true rfl, Nat.le_of_ble_eq_true rfl⟩) (k_pR hP hK [0, 1, 2, 3, 4, 5, 6, 7] rfl 0 3 rfl rfl) rfl rfl hl.1 rfl (lv_room (Nat.le_of_ble_eq_true rfl)) d_A_writeRun_26 ⟨Nat.zero_le _, Nat.zero_le _⟩) ?_
        refine lv_istore (lv' := [(4, .int (cRef N S z)), (0, .ref (q 0)), (1, .int (nI (tn x))), (2, .int (nI (tn n))), (3, .int v)]) hx hb d_A_writeRun_29 hl (by decide) rfl (fun ls hl => ?_)
        refine lv_iload hx hb d_A_writeRun_31 (lv_at hl 0 rfl) ?_
        refine lv_if_eq (tgt := 39) hx hb d_A_writeRun_33 rfl (fun g33 => ?_) (fun g33 => ?_)
        · refine lv_aload_n hx hb d_A_writeRun_39 rfl (lv_at hl 1 rfl) ?_
          refine lv_iconst (v := 0) hx hb d_A_writeRun_40 (by decide) ?_
          refine va_put (D := D) (ci := 3) (v := .int 0) (ty := .int) (C := R_A) (T := T_A) (N := 11) hx hb hts (in_A) ty_A tyok_A nm_A hown hK hP hD hS 0 rfl rfl 8 (by decide) (hts _ m_f_A_92) (fun _ h9 => h9) rfl (by decide +kernel) rfl rfl (Nat.le_of_ble_eq_true rfl) d_A_writeRun_41 (fun H locs hP hD hS => ?_)
          have hP : va_P D vwCl (wC cA q N S (sMd z 0)) H := hP
          have hD : va_D (k_A (wC cA q N S z)) (wC cA q N S (sMd z 0)) := hD
          refine lv_iload_n hx hb d_A_writeRun_44 rfl (lv_at hl 2 rfl) ?_
          refine lv_iload_n hx hb d_A_writeRun_45 rfl (lv_at hl 3 rfl) ?_
          refine lv_iadd hx hb d_A_writeRun_46 ?_
          refine k_top (nI (tn x + (tn n))) (nI_add (tn x) (tn n)) ?_
          refine lv_istore (lv' := [(5, .int (nI (tn x + (tn n)))), (4, .int (cRef N S z)), (0, .ref (q 0)), (1, .int (nI (tn x))), (2, .int (nI (tn n))), (3, .int v)]) hx hb d_A_writeRun_47 hl (by decide) rfl (fun ls hl => ?_)
          refine lv_iload hx hb d_A_writeRun_49 (lv_at hl 0 rfl) ?_
          refine lv_iconst (v := 1) hx hb d_A_writeRun_51 (by decide) ?_
          refine lv_isub hx hb d_A_writeRun_52 ?_
          refine k_top (nI (tn x + (tn n) - 1)) (pk_sub (a := tn x + (tn n)) (b := 1) (by omega)) ?_
          refine lv_aload_n hx hb d_A_writeRun_53 rfl (lv_at hl 2 rfl) ?_
          refine va_get (D := D) (ci := 3) (v := .int (nI (N - 2))) (C := R_A) (T := T_A) (N := 11) hx hb hts (in_A) hown hK hP 0 rfl rfl 1 (by decide) (hts _ m_f_A_17) (fun _ h9 => h9) rfl d_A_writeRun_54 ?_
          refine lv_idiv hx hb d_A_writeRun_57 (nI_ne0 (by omega) (by omega)) ?_
          refine k_top (nI ((tn x + (tn n) - 1) / (N - 2))) (pk_div (a := tn x + (tn n) - 1) (d := N - 2) (by omega) (by omega) (by omega)) ?_
          refine lv_istore (lv' := [(6, .int (nI ((tn x + (tn n) - 1) / (N - 2)))), (5, .int (nI (tn x + (tn n)))), (4, .int (cRef N S z)), (0, .ref (q 0)), (1, .int (nI (tn x))), (2, .int (nI (tn n))), (3, .int v)]) hx hb d_A_writeRun_58 hl (by decide) rfl (fun ls hl => ?_)
          refine lv_iload_n hx hb d_A_writeRun_60 rfl (lv_at hl 4 rfl) ?_
          refine lv_aload_n hx hb d_A_writeRun_61 rfl (lv_at hl 3 rfl) ?_
          refine va_get (D := D) (ci := 3) (v := .int (nI (N - 2))) (C := R_A) (T := T_A) (N := 11) hx hb hts (in_A) hown hK hP 0 rfl rfl 1 (by decide) (hts _ m_f_A_17) (fun _ h9 => h9) rfl d_A_writeRun_62 ?_
          refine lv_idiv hx hb d_A_writeRun_65 (nI_ne0 (by omega) (by omega)) ?_
          refine k_top (nI ((tn x) / (N - 2))) (pk_div (a := tn x) (d := N - 2) (by omega) (by omega) (by omega)) ?_
          refine lv_istore (lv' := [(7, .int (nI ((tn x) / (N - 2)))), (6, .int (nI ((tn x + (tn n) - 1) / (N - 2)))), (5, .int (nI (tn x + (tn n)))), (4, .int (cRef N S z)), (0, .ref (q 0)), (1, .int (nI (tn x))), (2, .int (nI (tn n))), (3, .int v)]) hx hb d_A_writeRun_66 hl (by decide) rfl (fun ls hl => ?_)
          have L68 : ∀ (k : Nat) (i : Nat) (zi : CS) (ls : Array Slot) (H : Heap) (locs : List Loc), i + k = (tn x + tn n - 1) / (N - 2) + 1 → cRunL N S (tn x) (tn n) v ((tn x + tn n - 1) / (N - 2) + 1 - tn x / (N - 2)) (tn x / (N - 2)) (sMd z 0) = cRunL N S (tn x) (tn n) v k i zi → tn x / (N - 2) ≤ i → lv_has ls 11 [(0, .ref (q 0)), (1, .int (nI (tn x))), (2, .int (nI (tn n))), (3, .int v), (5, .int (nI (tn x + tn n))), (6, .int (nI ((tn x + tn n - 1) / (N - 2)))), (7, .int (nI i))] → va_P D vwCl (wC cA q N S zi) H → va_S (k_A (wC cA q N S z)) s.heap H locs → W p l e (headSpec w_A_writeRun ({ frames := 5, cells := 0, slots := 0, locals := 122 })).room s m ([.ref (q 0), .int x, .int n, .int v] : List Value).toArray below meth c H locs 0 0 (MQ below (va_Qi (fun (r : Int32) (_ : Unit) => r = (cWRun N S x n v z).1) (fun _ t => va_P D vwCl (wC cA q N S ((cWRun N S x n v z).2)) t.heap) (k_A (wC cA q N S z))) ([.ref (q 0), .int x, .int n, .int v] : List Value).toArray s 0 0 (k_A (wC cA q N S z))) (F0 m 68 ls []) := by
            intro k
            induction k with
            | zero =>
              intro i zi ls H locs hk hr0 hi0 hl hP hS
              have hD := k_D (ws' := wC cA q N S zi) hD rfl
              have hr1 : cRunL N S (tn x) (tn n) v ((tn x + tn n - 1) / (N - 2) + 1 - tn x / (N - 2)) (tn x / (N - 2)) (sMd z 0) = (true, zi) := hr0
              refine lv_iload hx hb d_A_writeRun_68 (lv_at hl 6 rfl) ?_
              refine lv_iload hx hb d_A_writeRun_70 (lv_at hl 5 rfl) ?_
              refine lv_icmp_gt (tgt := 140) hx hb d_A_writeRun_72 rfl (fun g72 => ?_) (fun g72 => ?_)
              · have h72 : ((tn x + tn n - 1) / (N - 2)) < i := (nI_ltI (a := (tn x + tn n - 1) / (N - 2)) (b := i) (by omega) (by omega)).mp g72
                have k72 : ¬ i ≤ ((tn x + tn n - 1) / (N - 2)) := by omega
                refine lv_aload_n hx hb d_A_writeRun_140 rfl (lv_at hl 0 rfl) ?_
                refine va_get (D := D) (ci := 3) (v := .int (cMd zi)) (C := R_A) (T := T_A) (N := 11) hx hb hts (in_A) hown hK hP 0 rfl rfl 8 (by decide) (hts _ m_f_A_92) (fun _ h9 => h9) rfl d_A_writeRun_141 ?_
                have e3 : (cWRun N S x n v z).2 = zi := by first | ((try unfold cWRun); (repeat (first | rw [if_pos g5] | rw [if_neg g5] | rw [if_pos h5] | rw [if_neg h5] | rw [if_pos g10] | rw [if_neg g10] | rw [if_pos h10] | rw [if_neg h10] | rw [if_pos g20] | rw [if_neg g20] | rw [if_pos h20] | rw [if_neg h20] | rw [if_pos g33] | rw [if_neg g33] | rw [hr1] | rw [if_pos g72] | rw [if_neg g72] | rw [if_pos h72] | rw [if_neg h72] | rw [if_pos k72] | rw [if_neg k72] | rw [if_neg (show ¬ true = false by decide)] | rw [if_pos (show false = false from rfl)] | dsimp only)); first | done | rfl) | rfl | (simp [cWRun, g5, h5, g10, h10, g20, h20, g33, hr1, g72, h72, k72]; done)
                exact W.iret (v := cMd zi) hx hb hr (fun t ht hW => ⟨⟨_, (), rfl, by first | ((try unfold cWRun); (repeat (first | rw [if_pos g5] | rw [if_neg g5] | rw [if_pos h5] | rw [if_neg h5] | rw [if_pos g10] | rw [if_neg g10] | rw [if_pos h10] | rw [if_neg h10] | rw [if_pos g20] | rw [if_neg g20] | rw [if_pos h20] | rw [if_neg h20] | rw [if_pos g33] | rw [if_neg g33] | rw [hr1] | rw [if_pos g72] | rw [if_neg g72] | rw [if_pos h72] | rw [if_neg h72] | rw [if_pos k72] | rw [if_neg k72] | rw [if_neg (show ¬ true = false by decide)] | rw [if_pos (show false = false from rfl)] | dsimp only)); first | done | rfl) | rfl | (simp [cWRun, g5, h5, g10, h10, g20, h20, g33, hr1, g72, h72, k72]; done), by show va_P D vwCl (wC cA q N S ((cWRun N S x n v z).2)) t.heap; rw [ht, e3]; exact hP⟩, hS.F ht⟩) hS.2.2 d_A_writeRun_144
              · have h72 : ¬ ((tn x + tn n - 1) / (N - 2)) < i := fun z => g72 ((nI_ltI (a := (tn x + tn n - 1) / (N - 2)) (b := i) (by omega) (by omega)).mpr z)
                have k72 : i ≤ ((tn x + tn n - 1) / (N - 2)) := by omega
                exfalso; omega
            | succ k ih =>
              intro i zi ls H locs hk hr0 hi0 hl hP hS
              have hD := k_D (ws' := wC cA q N S zi) hD rfl
              refine lv_iload hx hb d_A_writeRun_68 (lv_at hl 6 rfl) ?_
              refine lv_iload hx hb d_A_writeRun_70 (lv_at hl 5 rfl) ?_
              refine lv_icmp_gt (tgt := 140) hx hb d_A_writeRun_72 rfl (fun g72 => ?_) (fun g72 => ?_)
              · have h72 : ((tn x + tn n - 1) / (N - 2)) < i := (nI_ltI (a := (tn x + tn n - 1) / (N - 2)) (b := i) (by omega) (by omega)).mp g72
                have k72 : ¬ i ≤ ((tn x + tn n - 1) / (N - 2)) := by omega
                exfalso; omega
              · have h72 : ¬ ((tn x + tn n - 1) / (N - 2)) < i := fun z => g72 ((nI_ltI (a := (tn x + tn n - 1) / (N - 2)) (b := i) (by omega) (by omega)).mpr z)
                have k72 : i ≤ ((tn x + tn n - 1) / (N - 2)) := by omega
                have hi1 : i < S := by omega
                have hi2 : i * (N - 2) ≤ S * (N - 2) := Nat.mul_le_mul_right _ (by omega)
                have hi3 : i * (N - 2) ≤ tn x + tn n - 1 := (Nat.le_div_iff_mul_le (by omega)).mp (by omega)
                have hi4 : tn x < i * (N - 2) + (N - 2) := by
                  have w1 := (Nat.div_lt_iff_lt_mul (show 0 < N - 2 by omega)).mp (Nat.lt_succ_of_le hi0)
                  rw [Nat.succ_mul] at w1
                  exact w1
                refine lv_iload hx hb d_A_writeRun_75 (lv_at hl 6 rfl) ?_
                refine lv_aload_n hx hb d_A_writeRun_77 rfl (lv_at hl 0 rfl) ?_
                refine va_get (D := D) (ci := 3) (v := .int (nI (N - 2))) (C := R_A) (T := T_A) (N := 11) hx hb hts (in_A) hown hK hP 0 rfl rfl 1 (by decide) (hts _ m_f_A_17) (fun _ h9 => h9) rfl d_A_writeRun_78 ?_
                refine lv_imul hx hb d_A_writeRun_81 ?_
                refine k_top (nI (i * (N - 2))) (pk_mul i (N - 2)) ?_
                refine lv_istore (lv' := [(8, .int (nI (i * (N - 2)))), (0, .ref (q 0)), (1, .int (nI (tn x))), (2, .int (nI (tn n))), (3, .int v), (5, .int (nI (tn x + tn n))), (6, .int (nI ((tn x + tn n - 1) / (N - 2)))), (7, .int (nI i))]) hx hb d_A_writeRun_82 hl (by decide) rfl (fun ls hl => ?_)
                refine lv_iload_n hx hb d_A_writeRun_84 rfl (lv_at hl 2 rfl) ?_
                refine lv_iload hx hb d_A_writeRun_85 (lv_at hl 0 rfl) ?_
                refine va_mmax hx hb (by rw [hml]; exact hl.1.symm) hown (hts _ m_l_A_95) (hts _ m_stat_max) (hts _ m_ini_Math) (hts _ m_code_max) (Nat.le_of_ble_eq_true rfl) (Nat.le_of_ble_eq_true rfl) (Nat.zero_le _) (Nat.zero_le _) d_A_writeRun_87 ?_
                refine k_top (nI (max (tn x) (i * (N - 2)))) (k_max (by omega) (by omega)) ?_
                refine lv_istore (lv' := [(9, .int (nI (max (tn x) (i * (N - 2))))), (8, .int (nI (i * (N - 2)))), (0, .ref (q 0)), (1, .int (nI (tn x))), (2, .int (nI (tn n))), (3, .int v), (5, .int (nI (tn x + tn n))), (6, .int (nI ((tn x + tn n - 1) / (N - 2)))), (7, .int (nI i))]) hx hb d_A_writeRun_90 hl (by decide) rfl (fun ls hl => ?_)
                refine lv_iload hx hb d_A_writeRun_92 (lv_at hl 6 rfl) ?_
                refine lv_iload hx hb d_A_writeRun_94 (lv_at hl 1 rfl) ?_
                refine lv_aload_n hx hb d_A_writeRun_96 rfl (lv_at hl 2 rfl) ?_
                refine va_get (D := D) (ci := 3) (v := .int (nI (N - 2))) (C := R_A) (T := T_A) (N := 11) hx hb hts (in_A) hown hK hP 0 rfl rfl 1 (by decide) (hts _ m_f_A_17) (fun _ h9 => h9) rfl d_A_writeRun_97 ?_
                refine lv_iadd hx hb d_A_writeRun_100 ?_
                refine k_top (nI (i * (N - 2) + (N - 2))) (nI_add (i * (N - 2)) (N - 2)) ?_
                refine va_mmin hx hb (by rw [hml]; exact hl.1.symm) hown (hts _ m_l_A_100) (hts _ m_stat_min) (hts _ m_ini_Math) (hts _ m_code_min) (Nat.le_of_ble_eq_true rfl) (Nat.le_of_ble_eq_true rfl) (Nat.zero_le _) (Nat.zero_le _) d_A_writeRun_101 ?_
                refine k_top (nI (min (tn x + tn n) (i * (N - 2) + (N - 2)))) (k_min (by omega) (by omega)) ?_
                refine lv_istore (lv' := [(10, .int (nI (min (tn x + tn n) (i * (N - 2) + (N - 2))))), (9, .int (nI (max (tn x) (i * (N - 2))))), (8, .int (nI (i * (N - 2)))), (0, .ref (q 0)), (1, .int (nI (tn x))), (2, .int (nI (tn n))), (3, .int v), (5, .int (nI (tn x + tn n))), (6, .int (nI ((tn x + tn n - 1) / (N - 2)))), (7, .int (nI i))]) hx hb d_A_writeRun_104 hl (by decide) rfl (fun ls hl => ?_)
                refine lv_aload_n hx hb d_A_writeRun_106 rfl (lv_at hl 3 rfl) ?_
                refine lv_iload hx hb d_A_writeRun_107 (lv_at hl 9 rfl) ?_
                refine lv_iload hx hb d_A_writeRun_109 (lv_at hl 1 rfl) ?_
                refine lv_iload hx hb d_A_writeRun_111 (lv_at hl 2 rfl) ?_
                refine lv_isub hx hb d_A_writeRun_113 ?_
                refine k_top (nI (max (tn x) (i * (N - 2)) - (i * (N - 2)))) (pk_sub (a := max (tn x) (i * (N - 2))) (b := i * (N - 2)) (by omega)) ?_
                refine lv_iload hx hb d_A_writeRun_114 (lv_at hl 0 rfl) ?_
                refine lv_iload hx hb d_A_writeRun_116 (lv_at hl 1 rfl) ?_
                refine lv_isub hx hb d_A_writeRun_118 ?_
                refine k_top (nI (min (tn x + tn n) (i * (N - 2) + (N - 2)) - (max (tn x) (i * (N - 2))))) (pk_sub (a := min (tn x + tn n) (i * (N - 2) + (N - 2))) (b := max (tn x) (i * (N - 2))) (by omega)) ?_
                refine lv_iload_n hx hb d_A_writeRun_119 rfl (lv_at hl 6 rfl) ?_
                refine lv_iload hx hb d_A_writeRun_120 (lv_at hl 1 rfl) ?_
                refine lv_iload_n hx hb d_A_writeRun_122 rfl (lv_at hl 4 rfl) ?_
                refine lv_isub hx hb d_A_writeRun_123 ?_
                refine k_top (nI (max (tn x) (i * (N - 2)) - (tn x))) (pk_sub (a := max (tn x) (i * (N - 2))) (b := tn x) (by omega)) ?_
                refine lv_iadd hx hb d_A_writeRun_124 ?_
                refine k_wri (va_runV (C := R_A) (As := [.int (nI i), .int (nI (max (tn x) (i * (N - 2)) - (i * (N - 2)))), .int (nI (min (tn x + tn n) (i * (N - 2) + (N - 2)) - (max (tn x) (i * (N - 2))))), .int (v + (nI (max (tn x) (i * (N - 2)) - (tn x))))]) (rest := []) ⟨hx, hb, hml, hown, hts⟩ (c_DualParityArray_writeColumns l D cA q N S zi (by omega) (by omega) (by omega) (by omega) i (max (tn x) (i * (N - 2)) - (i * (N - 2))) (min (tn x + tn n) (i * (N - 2) + (N - 2)) - (max (tn x) (i * (N - 2)))) (v + (nI (max (tn x) (i * (N - 2)) - (tn x)))) (by omega) (by omega)) (k_cwV 4 hts m_code_A_writeColumns m_ini_A m_l_A_103 m_inst_A_writeColumns m_sel_A_writeColumns h_A_writeColumns rfl rfl ⟨Nat.le_of_ble_eq_true rfl, Nat.le_of_ble_eq_true rfl⟩) (k_pT hP hK hD hTb hS [0, 1, 2, 3, 4, 5, 6, 7] (by decide) rfl 0 3 rfl rfl) rfl rfl hl.1 rfl (lv_room (Nat.le_of_ble_eq_true rfl)) d_A_writeRun_125 ⟨Nat.zero_le _, Nat.zero_le _⟩) hS hD [0, 1, 2, 3, 4, 5, 6, 7] rfl (fun r u H1 locs hp hk hP1 hS => ?_)
                subst hp
                obtain ⟨u4, hu4⟩ : ∃ w, w = (cWC N S i (max (tn x) (i * (N - 2)) - (i * (N - 2))) (min (tn x + tn n) (i * (N - 2) + (N - 2)) - (max (tn x) (i * (N - 2)))) (v + (nI (max (tn x) (i * (N - 2)) - (tn x)))) zi).2 := ⟨_, rfl⟩
                have hP : va_P D vwCl (wC cA q N S u4) H1 := by rw [hu4]; exact hP1
                have hD : va_D (k_A (wC cA q N S z)) (wC cA q N S u4) := k_D hD rfl
                generalize H1 = H at hP hS ⊢
                refine lv_if_ne (tgt := 134) hx hb d_A_writeRun_128 rfl (fun g128 => ?_) (fun g128 => ?_)
                · have h128 := bi_nz.mp g128
                  refine lv_iinc (k := 9) (v := nI (i + 1)) (lv' := [(7, .int (nI (i + 1))), (10, .int (nI (min (tn x + tn n) (i * (N - 2) + (N - 2))))), (9, .int (nI (max (tn x) (i * (N - 2))))), (8, .int (nI (i * (N - 2)))), (0, .ref (q 0)), (1, .int (nI (tn x))), (2, .int (nI (tn n))), (3, .int v), (5, .int (nI (tn x + tn n))), (6, .int (nI ((tn x + tn n - 1) / (N - 2))))]) hx hb d_A_writeRun_134 hl rfl (nI_add i 1) (by decide) rfl (fun ls hl => ?_)
                  refine lv_goto hx hb d_A_writeRun_137 rfl ?_
                  exact ih (i + 1) u4 ls H locs (by omega) (by subst hu4; first | exact hr0.trans (cRunL_f h128) | rfl) (by omega) (lv_sub hl [4, 5, 6, 7, 8, 9, 0] rfl) hP hS
                · have h128 := bi_z.mp g128
                  have hr1 := hr0.trans (cRunL_t h128)
                  refine lv_bipush (v := (-4)) hx hb d_A_writeRun_131 (by decide) ?_
                  have e5 : (cWRun N S x n v z).2 = u4 := by subst hu4; first | ((try unfold cWRun); (repeat (first | rw [if_pos g5] | rw [if_neg g5] | rw [if_pos h5] | rw [if_neg h5] | rw [if_pos g10] | rw [if_neg g10] | rw [if_pos h10] | rw [if_neg h10] | rw [if_pos g20] | rw [if_neg g20] | rw [if_pos h20] | rw [if_neg h20] | rw [if_pos g33] | rw [if_neg g33] | rw [if_pos g72] | rw [if_neg g72] | rw [if_pos h72] | rw [if_neg h72] | rw [if_pos k72] | rw [if_neg k72] | rw [if_pos g128] | rw [if_neg g128] | rw [if_pos h128] | rw [if_neg h128] | rw [hr1] | rw [if_neg (show ¬ true = false by decide)] | rw [if_pos (show false = false from rfl)] | dsimp only)); first | done | rfl) | rfl | (simp [cWRun, g5, h5, g10, h10, g20, h20, g33, g72, h72, k72, g128, h128, hr1]; done)
                  exact W.iret (v := (-4)) hx hb hr (fun t ht hW => ⟨⟨_, (), rfl, by subst hu4; first | ((try unfold cWRun); (repeat (first | rw [if_pos g5] | rw [if_neg g5] | rw [if_pos h5] | rw [if_neg h5] | rw [if_pos g10] | rw [if_neg g10] | rw [if_pos h10] | rw [if_neg h10] | rw [if_pos g20] | rw [if_neg g20] | rw [if_pos h20] | rw [if_neg h20] | rw [if_pos g33] | rw [if_neg g33] | rw [if_pos g72] | rw [if_neg g72] | rw [if_pos h72] | rw [if_neg h72] | rw [if_pos k72] | rw [if_neg k72] | rw [if_pos g128] | rw [if_neg g128] | rw [if_pos h128] | rw [if_neg h128] | rw [hr1] | rw [if_neg (show ¬ true = false by decide)] | rw [if_pos (show false = false from rfl)] | dsimp only)); first | done | rfl) | rfl | (simp [cWRun, g5, h5, g10, h10, g20, h20, g33, g72, h72, k72, g128, h128, hr1]; done), by show va_P D vwCl (wC cA q N S ((cWRun N S x n v z).2)) t.heap; rw [ht, e5]; exact hP⟩, hS.F ht⟩) hS.2.2 d_A_writeRun_133
          have e6 : nI (tn x + tn n) = nI (tn x + (tn n)) := by first | ((try unfold cWRun); (repeat (first | rw [if_pos g5] | rw [if_neg g5] | rw [if_pos h5] | rw [if_neg h5] | rw [if_pos g10] | rw [if_neg g10] | rw [if_pos h10] | rw [if_neg h10] | rw [if_pos g20] | rw [if_neg g20] | rw [if_pos h20] | rw [if_neg h20] | rw [if_pos g33] | rw [if_neg g33] | rw [if_neg (show ¬ true = false by decide)] | rw [if_pos (show false = false from rfl)] | dsimp only)); first | done | rfl) | rfl | (simp [cWRun, g5, h5, g10, h10, g20, h20, g33]; done)
          have e7 : nI ((tn x + tn n - 1) / (N - 2)) = nI ((tn x + (tn n) - 1) / (N - 2)) := by first | ((try unfold cWRun); (repeat (first | rw [if_pos g5] | rw [if_neg g5] | rw [if_pos h5] | rw [if_neg h5] | rw [if_pos g10] | rw [if_neg g10] | rw [if_pos h10] | rw [if_neg h10] | rw [if_pos g20] | rw [if_neg g20] | rw [if_pos h20] | rw [if_neg h20] | rw [if_pos g33] | rw [if_neg g33] | rw [if_neg (show ¬ true = false by decide)] | rw [if_pos (show false = false from rfl)] | dsimp only)); first | done | rfl) | rfl | (simp [cWRun, g5, h5, g10, h10, g20, h20, g33]; done)
          have e8 : nI (tn x / (N - 2)) = nI ((tn x) / (N - 2)) := by first | ((try unfold cWRun); (repeat (first | rw [if_pos g5] | rw [if_neg g5] | rw [if_pos h5] | rw [if_neg h5] | rw [if_pos g10] | rw [if_neg g10] | rw [if_pos h10] | rw [if_neg h10] | rw [if_pos g20] | rw [if_neg g20] | rw [if_pos h20] | rw [if_neg h20] | rw [if_pos g33] | rw [if_neg g33] | rw [if_neg (show ¬ true = false by decide)] | rw [if_pos (show false = false from rfl)] | dsimp only)); first | done | rfl) | rfl | (simp [cWRun, g5, h5, g10, h10, g20, h20, g33]; done)
          exact L68 ((tn x + tn n - 1) / (N - 2) + 1 - tn x / (N - 2)) (tn x / (N - 2)) (sMd z 0) ls H locs (by omega) (by first | exact hr0.trans (cRunL_f h128) | rfl) (by omega) (by rw [e6, e7, e8]; exact lv_sub hl [4, 5, 6, 7, 2, 1, 0] rfl) hP hS
        · refine lv_iload hx hb d_A_writeRun_36 (lv_at hl 0 rfl) ?_
          have e9 : (cWRun N S x n v z).2 = z := by first | ((try unfold cWRun); (repeat (first | rw [if_pos g5] | rw [if_neg g5] | rw [if_pos h5] | rw [if_neg h5] | rw [if_pos g10] | rw [if_neg g10] | rw [if_pos h10] | rw [if_neg h10] | rw [if_pos g20] | rw [if_neg g20] | rw [if_pos h20] | rw [if_neg h20] | rw [if_pos g33] | rw [if_neg g33] | rw [if_neg (show ¬ true = false by decide)] | rw [if_pos (show false = false from rfl)] | dsimp only)); first | done | rfl) | rfl | (simp [cWRun, g5, h5, g10, h10, g20, h20, g33]; done)
          exact W.iret (v := cRef N S z) hx hb hr (fun t ht hW => ⟨⟨_, (), rfl, by first | ((try unfold cWRun); (repeat (first | rw [if_pos g5] | rw [if_neg g5] | rw [if_pos h5] | rw [if_neg h5] | rw [if_pos g10] | rw [if_neg g10] | rw [if_pos h10] | rw [if_neg h10] | rw [if_pos g20] | rw [if_neg g20] | rw [if_pos h20] | rw [if_neg h20] | rw [if_pos g33] | rw [if_neg g33] | rw [if_neg (show ¬ true = false by decide)] | rw [if_pos (show false = false from rfl)] | dsimp only)); first | done | rfl) | rfl | (simp [cWRun, g5, h5, g10, h10, g20, h20, g33]; done), by show va_P D vwCl (wC cA q N S ((cWRun N S x n v z).2)) t.heap; rw [ht, e9]; exact hP⟩, hS.F ht⟩) hS.2.2 d_A_writeRun_38
      · have h20 := Int32.not_le.mp g20
        refine lv_iconst (v := (-1)) hx hb d_A_writeRun_23 (by decide) ?_
        have e10 : (cWRun N S x n v z).2 = z := by first | ((try unfold cWRun); (repeat (first | rw [if_pos g5] | rw [if_neg g5] | rw [if_pos h5] | rw [if_neg h5] | rw [if_pos g10] | rw [if_neg g10] | rw [if_pos h10] | rw [if_neg h10] | rw [if_pos g20] | rw [if_neg g20] | rw [if_pos h20] | rw [if_neg h20] | rw [if_neg (show ¬ true = false by decide)] | rw [if_pos (show false = false from rfl)] | dsimp only)); first | done | rfl) | rfl | (simp [cWRun, g5, h5, g10, h10, g20, h20]; done)
        exact W.iret (v := (-1)) hx hb hr (fun t ht hW => ⟨⟨_, (), rfl, by first | ((try unfold cWRun); (repeat (first | rw [if_pos g5] | rw [if_neg g5] | rw [if_pos h5] | rw [if_neg h5] | rw [if_pos g10] | rw [if_neg g10] | rw [if_pos h10] | rw [if_neg h10] | rw [if_pos g20] | rw [if_neg g20] | rw [if_pos h20] | rw [if_neg h20] | rw [if_neg (show ¬ true = false by decide)] | rw [if_pos (show false = false from rfl)] | dsimp only)); first | done | rfl) | rfl | (simp [cWRun, g5, h5, g10, h10, g20, h20]; done), by show va_P D vwCl (wC cA q N S ((cWRun N S x n v z).2)) t.heap; rw [ht, e10]; exact hP⟩, hS.F ht⟩) hS.2.2 d_A_writeRun_24
set_option maxHeartbeats 4000000 in
set_option maxRecDepth 100000 in
theorem c_DualParityArray_write (l : Launch) (D : va_G) (cA : ClassId) (q : Nat → Nat) (N S : Nat) (z : CS) (gN4 : 4 ≤ N) (gN : N ≤ 10) (gS1 : 1 ≤ S) (gS : S ≤ 16) (x v : Int32) : Met l y_A_write w_A_write ({ frames := 6, cells := 0, slots := 0, locals := 152 }) (va_Pc [.ref (q 0), .int x, .int v] (k_WT D [(cA, .int)] (wC cA q N S z))) (va_Qi (fun (r : Int32) (_ : Unit) => r = (cWRun N S x 1 v z).1) (fun _ t => va_P D vwCl (wC cA q N S ((cWRun N S x 1 v z).2)) t.heap) (k_A (wC cA q N S z))) 0 0 (k_A (wC cA q N S z)) := by
  refine Met.ofW (cc := b_A_write) (maxL := 3) (ret := (some .int)) (by decide) rfl ?_
  intro p e s m args below meth c s₁ B hml hv
  obtain ⟨rfl, hP, hK, hD0, hTb⟩ := hv
  have hx := B.exec
  have hb := B.bytes
  have hr := B.returns
  have hts0 := atoms_spec (ws := w_A_write) B.pre
  have hts : ∀ w ∈ lw_g, w.before _ s = true := fun w h => hts0 w (List.mem_cons_of_mem _ h)
  have hown : s.vm.findClass R_A = some m.cls := findClass_of_methodNamed B.named
  have hlocks := B.notSynchronized
  have hD := k_Dself hD0
  have hS : va_S (k_A (wC cA q N S z)) s.heap s.heap [] := va_S.rf
  have hl := lv_entry ([.ref (q 0), .int x, .int v]) (n := 3) (Nat.le_of_ble_eq_true rfl)
  rw [lg_entry_eq]
  generalize (lg_sl ([.ref (q 0), .int x, .int v]) ++ List.replicate (3 - (lg_sl ([.ref (q 0), .int x, .int v])).length) Slot.unset).toArray = ls at hl ⊢
  have hl : lv_has ls 3 [(0, .ref (q 0)), (1, .int x), (2, .int v)] := hl
  refine lv_aload_n hx hb d_A_write_0 rfl (lv_at hl 0 rfl) ?_
  refine lv_iload_n hx hb d_A_write_1 rfl (lv_at hl 1 rfl) ?_
  refine lv_iconst (v := 1) hx hb d_A_write_2 (by decide) ?_
  refine lv_iload_n hx hb d_A_write_3 rfl (lv_at hl 2 rfl) ?_
  refine k_wri (va_runV (C := R_A) (As := [.int x, .int 1, .int v]) (rest := []) ⟨hx, hb, hml, hown, hts⟩ (c_DualParityArray_writeRun l D cA q N S z (by omega) (by omega) (by omega) (by omega) x 1 v) (k_cwV 3 hts m_code_A_writeRun m_ini_A m_l_A_86 m_inst_A_writeRun m_sel_A_writeRun h_A_writeRun rfl rfl ⟨Nat.le_of_ble_eq_true rfl, Nat.le_of_ble_eq_true rfl⟩) (k_pT hP hK hD hTb hS [0, 1, 2, 3, 4, 5, 6, 7] (by decide) rfl 0 3 rfl rfl) rfl rfl hl.1 rfl (lv_room (Nat.le_of_ble_eq_true rfl)) d_A_write_4 ⟨Nat.zero_le _, Nat.zero_le _⟩) hS hD [0, 1, 2, 3, 4, 5, 6, 7] rfl (fun r u H1 locs hp hk hP1 hS => ?_)
  subst hp
  obtain ⟨u1, hu1⟩ : ∃ w, w = (cWRun N S x 1 v z).2 := ⟨_, rfl⟩
  have hP : va_P D vwCl (wC cA q N S u1) H1 := by rw [hu1]; exact hP1
  have hD : va_D (k_A (wC cA q N S z)) (wC cA q N S u1) := k_D hD rfl
  generalize H1 = H at hP hS ⊢
  have e2 : (cWRun N S x 1 v z).2 = u1 := by subst hu1; first | rfl | (simp []; done) | omega
  exact W.iret (v := (cWRun N S x 1 v z).1) hx hb hr (fun t ht hW => ⟨⟨_, (), rfl, rfl, by show va_P D vwCl (wC cA q N S ((cWRun N S x 1 v z).2)) t.heap; rw [ht, e2]; exact hP⟩, hS.F ht⟩) hS.2.2 d_A_write_7
set_option maxHeartbeats 4000000 in
set_option maxRecDepth 100000 in
theorem c_DualParityArray_fail (l : Launch) (D : va_G) (cA : ClassId) (q : Nat → Nat) (N S : Nat) (z : CS) (gN4 : 4 ≤ N) (gN : N ≤ 10) (gS1 : 1 ≤ S) (gS : S ≤ 16) (x : Int32) : Met l y_A_fail w_A_fail ({ frames := 1, cells := 0, slots := 0, locals := 21 }) (va_Pc [.ref (q 0), .int x] (k_Wc D [(cA, .int)] (wC cA q N S z))) (va_Qi (fun (r : Int32) (_ : Unit) => r = bi ((cFail N x z).1)) (fun _ t => va_P D vwCl (wC cA q N S ((cFail N x z).2)) t.heap) (k_A (wC cA q N S z))) 0 0 (k_A (wC cA q N S z)) := by
  refine Met.ofW (cc := b_A_fail) (maxL := 2) (ret := (some .boolean)) (by decide) rfl ?_
  intro p e s m args below meth c s₁ B hml hv
  obtain ⟨rfl, hP, hK, hD0⟩ := hv
  have hx := B.exec
  have hb := B.bytes
  have hr := B.returns
  have hts0 := atoms_spec (ws := w_A_fail) B.pre
  have hts : ∀ w ∈ lw_g, w.before _ s = true := fun w h => hts0 w (List.mem_cons_of_mem _ h)
  have hown : s.vm.findClass R_A = some m.cls := findClass_of_methodNamed B.named
  have hlocks := B.notSynchronized
  have hD := k_Dself hD0
  have hS : va_S (k_A (wC cA q N S z)) s.heap s.heap [] := va_S.rf
  have hl := lv_entry ([.ref (q 0), .int x]) (n := 2) (Nat.le_of_ble_eq_true rfl)
  rw [lg_entry_eq]
  generalize (lg_sl ([.ref (q 0), .int x]) ++ List.replicate (2 - (lg_sl ([.ref (q 0), .int x])).length) Slot.unset).toArray = ls at hl ⊢
  have hl : lv_has ls 2 [(0, .ref (q 0)), (1, .int x)] := hl
  refine lv_aload_n hx hb d_A_fail_0 rfl (lv_at hl 0 rfl) ?_
  refine va_get (D := D) (ci := 3) (v := .ref (q 1)) (C := R_A) (T := T_A) (N := 11) hx hb hts (in_A) hown hK hP 0 rfl rfl 2 (by decide) (hts _ m_f_A_25) (fun _ h9 => h9) rfl d_A_fail_1 ?_
  refine lv_iload_n hx hb d_A_fail_4 rfl (lv_at hl 1 rfl) ?_
  refine k_roi (va_runV (C := R_D) (As := [.int x]) (rest := []) ⟨hx, hb, hml, hown, hts⟩ (c_Disks_hasDisk l D cA (q 1) (q 2) (q 3) N S (cW z) (cP z) (by omega) (by omega) (by omega) (by omega) x) (k_cwV 1 hts m_code_D_hasDisk m_ini_D m_l_A_107 m_inst_D_hasDisk m_sel_D_hasDisk h_D_hasDisk rfl rfl ⟨Nat.le_of_ble_eq_true rfl, Nat.le_of_ble_eq_true rfl⟩) (k_pR hP hK [1, 2, 3] rfl 1 0 rfl rfl) rfl rfl hl.1 rfl (lv_room (Nat.le_of_ble_eq_true rfl)) d_A_fail_5 ⟨Nat.zero_le _, Nat.zero_le _⟩) ?_
  refine lv_if_eq (tgt := 22) hx hb d_A_fail_8 rfl (fun g8 => ?_) (fun g8 => ?_)
  · have h8 := of_decide_eq_false (bi_z.mp g8)
    refine lv_iconst (v := 0) hx hb d_A_fail_22 (by decide) ?_
    have e1 : (cFail N x z).2 = z := by first | ((try unfold cFail); (repeat (first | rw [if_pos g8] | rw [if_neg g8] | rw [if_pos h8] | rw [if_neg h8] | rw [if_neg (show ¬ true = false by decide)] | rw [if_pos (show false = false from rfl)] | dsimp only)); first | done | rfl) | rfl | (simp [cFail, bi, g8, h8]; done)
    exact W.zret (v := 0) (ty := .boolean) hx hb hr (rfl) (fun t ht hW => ⟨⟨_, (), rfl, by first | ((try unfold cFail); (repeat (first | rw [if_pos g8] | rw [if_neg g8] | rw [if_pos h8] | rw [if_neg h8] | rw [if_neg (show ¬ true = false by decide)] | rw [if_pos (show false = false from rfl)] | dsimp only)); first | done | rfl) | rfl | (simp [cFail, bi, g8, h8]; done), by show va_P D vwCl (wC cA q N S ((cFail N x z).2)) t.heap; rw [ht, e1]; exact hP⟩, hS.F ht⟩) hS.2.2 d_A_fail_23
  · have h8 := of_decide_eq_true (bi_nz.mp g8)
    obtain ⟨hx1, hx2⟩ := tn_of (by omega) h8
    have hl : lv_has ls 2 [(0, .ref (q 0)), (1, .int (nI (tn x)))] := by rw [← hx2]; exact hl
    refine lv_aload_n hx hb d_A_fail_11 rfl (lv_at hl 0 rfl) ?_
    refine va_get (D := D) (ci := 3) (v := .ref (q 1)) (C := R_A) (T := T_A) (N := 11) hx hb hts (in_A) hown hK hP 0 rfl rfl 2 (by decide) (hts _ m_f_A_25) (fun _ h9 => h9) rfl d_A_fail_12 ?_
    refine lv_iload_n hx hb d_A_fail_15 rfl (lv_at hl 1 rfl) ?_
    refine k_roi (va_runV (C := R_D) (As := [.int (nI (tn x))]) (rest := []) ⟨hx, hb, hml, hown, hts⟩ (c_Disks_missing l D cA (q 1) (q 2) (q 3) N S (cW z) (cP z) (by omega) (by omega) (by omega) (by omega) (tn x) (by omega)) (k_cwV 1 hts m_code_D_missing m_ini_D m_l_A_110 m_inst_D_missing m_sel_D_missing h_D_missing rfl rfl ⟨Nat.le_of_ble_eq_true rfl, Nat.le_of_ble_eq_true rfl⟩) (k_pR hP hK [1, 2, 3] rfl 1 0 rfl rfl) rfl rfl hl.1 rfl (lv_room (Nat.le_of_ble_eq_true rfl)) d_A_fail_16 ⟨Nat.zero_le _, Nat.zero_le _⟩) ?_
    refine lv_if_eq (tgt := 24) hx hb d_A_fail_19 rfl (fun g19 => ?_) (fun g19 => ?_)
    · have h19 := of_decide_eq_false (bi_z.mp g19)
      refine lv_aload_n hx hb d_A_fail_24 rfl (lv_at hl 0 rfl) ?_
      refine va_get (D := D) (ci := 3) (v := .ref (q 1)) (C := R_A) (T := T_A) (N := 11) hx hb hts (in_A) hown hK hP 0 rfl rfl 2 (by decide) (hts _ m_f_A_25) (fun _ h9 => h9) rfl d_A_fail_25 ?_
      refine lv_iload_n hx hb d_A_fail_28 rfl (lv_at hl 1 rfl) ?_
      refine k_wrv (va_runV (C := R_D) (As := [.int (nI (tn x))]) (rest := []) ⟨hx, hb, hml, hown, hts⟩ (c_Disks_remove l D cA (q 1) (q 2) (q 3) N S (cW z) (cP z) (by omega) (by omega) (by omega) (by omega) (tn x) (by omega)) (k_cwV 1 hts m_code_D_remove m_ini_D m_l_A_113 m_inst_D_remove m_sel_D_remove h_D_remove rfl rfl ⟨Nat.le_of_ble_eq_true rfl, Nat.le_of_ble_eq_true rfl⟩) (k_pW hP hK hD [1, 2, 3] (by decide) rfl 1 0 rfl rfl) rfl rfl hl.1 rfl (lv_room (Nat.le_of_ble_eq_true rfl)) d_A_fail_29 ⟨Nat.zero_le _, Nat.zero_le _⟩) hS hD [1, 2, 3] rfl (fun u H1 locs _ hk hP1 hS => ?_)
      have hP : va_P D vwCl (wC cA q N S (sP z (upd (cP z) (tn x) (-1)))) H1 := k_bk hP hD [1, 2, 3] [0, 4, 5, 6, 7] rfl (by decide) hk hP1 [0, 5, 6, 7, 1, 2, 3, 4] rfl
      have hD : va_D (k_A (wC cA q N S z)) (wC cA q N S (sP z (upd (cP z) (tn x) (-1)))) := k_D hD rfl
      generalize H1 = H at hP hS ⊢
      refine lv_iconst (v := 1) hx hb d_A_fail_32 (by decide) ?_
      have e2 : (cFail N x z).2 = sP z (upd (cP z) (tn x) (-1)) := by first | ((try unfold cFail); (repeat (first | rw [if_pos g8] | rw [if_neg g8] | rw [if_pos h8] | rw [if_neg h8] | rw [if_pos g19] | rw [if_neg g19] | rw [if_pos h19] | rw [if_neg h19] | rw [if_neg (show ¬ true = false by decide)] | rw [if_pos (show false = false from rfl)] | dsimp only)); first | done | rfl) | rfl | (simp [cFail, bi, g8, h8, g19, h19]; done)
      exact W.zret (v := 1) (ty := .boolean) hx hb hr (rfl) (fun t ht hW => ⟨⟨_, (), rfl, by first | ((try unfold cFail); (repeat (first | rw [if_pos g8] | rw [if_neg g8] | rw [if_pos h8] | rw [if_neg h8] | rw [if_pos g19] | rw [if_neg g19] | rw [if_pos h19] | rw [if_neg h19] | rw [if_neg (show ¬ true = false by decide)] | rw [if_pos (show false = false from rfl)] | dsimp only)); first | done | rfl) | rfl | (simp [cFail, bi, g8, h8, g19, h19]; done), by show va_P D vwCl (wC cA q N S ((cFail N x z).2)) t.heap; rw [ht, e2]; exact hP⟩, hS.F ht⟩) hS.2.2 d_A_fail_33
    · have h19 := of_decide_eq_true (bi_nz.mp g19)
      refine lv_iconst (v := 0) hx hb d_A_fail_22 (by decide) ?_
      have e3 : (cFail N x z).2 = z := by first | ((try unfold cFail); (repeat (first | rw [if_pos g8] | rw [if_neg g8] | rw [if_pos h8] | rw [if_neg h8] | rw [if_pos g19] | rw [if_neg g19] | rw [if_pos h19] | rw [if_neg h19] | rw [if_neg (show ¬ true = false by decide)] | rw [if_pos (show false = false from rfl)] | dsimp only)); first | done | rfl) | rfl | (simp [cFail, bi, g8, h8, g19, h19]; done)
      exact W.zret (v := 0) (ty := .boolean) hx hb hr (rfl) (fun t ht hW => ⟨⟨_, (), rfl, by first | ((try unfold cFail); (repeat (first | rw [if_pos g8] | rw [if_neg g8] | rw [if_pos h8] | rw [if_neg h8] | rw [if_pos g19] | rw [if_neg g19] | rw [if_pos h19] | rw [if_neg h19] | rw [if_neg (show ¬ true = false by decide)] | rw [if_pos (show false = false from rfl)] | dsimp only)); first | done | rfl) | rfl | (simp [cFail, bi, g8, h8, g19, h19]; done), by show va_P D vwCl (wC cA q N S ((cFail N x z).2)) t.heap; rw [ht, e3]; exact hP⟩, hS.F ht⟩) hS.2.2 d_A_fail_23
set_option maxHeartbeats 4000000 in
set_option maxRecDepth 100000 in
theorem c_DualParityArray_replace (l : Launch) (D : va_G) (cA : ClassId) (q : Nat → Nat) (N S : Nat) (z : CS) (gN4 : 4 ≤ N) (gN : N ≤ 10) (gS1 : 1 ≤ S) (gS : S ≤ 16) (x : Int32) : Met l y_A_replace w_A_replace ({ frames := 1, cells := 0, slots := 0, locals := 21 }) (va_Pc [.ref (q 0), .int x] (k_Wc D [(cA, .int)] (wC cA q N S z))) (va_Qi (fun (r : Int32) (_ : Unit) => r = bi ((cRepl N x z).1)) (fun _ t => va_P D vwCl (wC cA q N S ((cRepl N x z).2)) t.heap) (k_A (wC cA q N S z))) 0 0 (k_A (wC cA q N S z)) := by
  refine Met.ofW (cc := b_A_replace) (maxL := 2) (ret := (some .boolean)) (by decide) rfl ?_
  intro p e s m args below meth c s₁ B hml hv
  obtain ⟨rfl, hP, hK, hD0⟩ := hv
  have hx := B.exec
  have hb := B.bytes
  have hr := B.returns
  have hts0 := atoms_spec (ws := w_A_replace) B.pre
  have hts : ∀ w ∈ lw_g, w.before _ s = true := fun w h => hts0 w (List.mem_cons_of_mem _ h)
  have hown : s.vm.findClass R_A = some m.cls := findClass_of_methodNamed B.named
  have hlocks := B.notSynchronized
  have hD := k_Dself hD0
  have hS : va_S (k_A (wC cA q N S z)) s.heap s.heap [] := va_S.rf
  have hl := lv_entry ([.ref (q 0), .int x]) (n := 2) (Nat.le_of_ble_eq_true rfl)
  rw [lg_entry_eq]
  generalize (lg_sl ([.ref (q 0), .int x]) ++ List.replicate (2 - (lg_sl ([.ref (q 0), .int x])).length) Slot.unset).toArray = ls at hl ⊢
  have hl : lv_has ls 2 [(0, .ref (q 0)), (1, .int x)] := hl
  refine lv_aload_n hx hb d_A_replace_0 rfl (lv_at hl 0 rfl) ?_
  refine va_get (D := D) (ci := 3) (v := .ref (q 1)) (C := R_A) (T := T_A) (N := 11) hx hb hts (in_A) hown hK hP 0 rfl rfl 2 (by decide) (hts _ m_f_A_25) (fun _ h9 => h9) rfl d_A_replace_1 ?_
  refine lv_iload_n hx hb d_A_replace_4 rfl (lv_at hl 1 rfl) ?_
  refine k_roi (va_runV (C := R_D) (As := [.int x]) (rest := []) ⟨hx, hb, hml, hown, hts⟩ (c_Disks_hasDisk l D cA (q 1) (q 2) (q 3) N S (cW z) (cP z) (by omega) (by omega) (by omega) (by omega) x) (k_cwV 1 hts m_code_D_hasDisk m_ini_D m_l_A_107 m_inst_D_hasDisk m_sel_D_hasDisk h_D_hasDisk rfl rfl ⟨Nat.le_of_ble_eq_true rfl, Nat.le_of_ble_eq_true rfl⟩) (k_pR hP hK [1, 2, 3] rfl 1 0 rfl rfl) rfl rfl hl.1 rfl (lv_room (Nat.le_of_ble_eq_true rfl)) d_A_replace_5 ⟨Nat.zero_le _, Nat.zero_le _⟩) ?_
  refine lv_if_eq (tgt := 29) hx hb d_A_replace_8 rfl (fun g8 => ?_) (fun g8 => ?_)
  · have h8 := of_decide_eq_false (bi_z.mp g8)
    refine lv_iconst (v := 0) hx hb d_A_replace_29 (by decide) ?_
    have e1 : (cRepl N x z).2 = z := by first | ((try unfold cRepl); (repeat (first | rw [if_pos g8] | rw [if_neg g8] | rw [if_pos h8] | rw [if_neg h8] | rw [if_neg (show ¬ true = false by decide)] | rw [if_pos (show false = false from rfl)] | dsimp only)); first | done | rfl) | rfl | (simp [cRepl, bi, g8, h8]; done)
    exact W.zret (v := 0) (ty := .boolean) hx hb hr (rfl) (fun t ht hW => ⟨⟨_, (), rfl, by first | ((try unfold cRepl); (repeat (first | rw [if_pos g8] | rw [if_neg g8] | rw [if_pos h8] | rw [if_neg h8] | rw [if_neg (show ¬ true = false by decide)] | rw [if_pos (show false = false from rfl)] | dsimp only)); first | done | rfl) | rfl | (simp [cRepl, bi, g8, h8]; done), by show va_P D vwCl (wC cA q N S ((cRepl N x z).2)) t.heap; rw [ht, e1]; exact hP⟩, hS.F ht⟩) hS.2.2 d_A_replace_30
  · have h8 := of_decide_eq_true (bi_nz.mp g8)
    obtain ⟨hx1, hx2⟩ := tn_of (by omega) h8
    have hl : lv_has ls 2 [(0, .ref (q 0)), (1, .int (nI (tn x)))] := by rw [← hx2]; exact hl
    refine lv_aload_n hx hb d_A_replace_11 rfl (lv_at hl 0 rfl) ?_
    refine va_get (D := D) (ci := 3) (v := .ref (q 1)) (C := R_A) (T := T_A) (N := 11) hx hb hts (in_A) hown hK hP 0 rfl rfl 2 (by decide) (hts _ m_f_A_25) (fun _ h9 => h9) rfl d_A_replace_12 ?_
    refine lv_iload_n hx hb d_A_replace_15 rfl (lv_at hl 1 rfl) ?_
    refine k_roi (va_runV (C := R_D) (As := [.int (nI (tn x))]) (rest := []) ⟨hx, hb, hml, hown, hts⟩ (c_Disks_missing l D cA (q 1) (q 2) (q 3) N S (cW z) (cP z) (by omega) (by omega) (by omega) (by omega) (tn x) (by omega)) (k_cwV 1 hts m_code_D_missing m_ini_D m_l_A_110 m_inst_D_missing m_sel_D_missing h_D_missing rfl rfl ⟨Nat.le_of_ble_eq_true rfl, Nat.le_of_ble_eq_true rfl⟩) (k_pR hP hK [1, 2, 3] rfl 1 0 rfl rfl) rfl rfl hl.1 rfl (lv_room (Nat.le_of_ble_eq_true rfl)) d_A_replace_16 ⟨Nat.zero_le _, Nat.zero_le _⟩) ?_
    refine lv_if_eq (tgt := 29) hx hb d_A_replace_19 rfl (fun g19 => ?_) (fun g19 => ?_)
    · have h19 := of_decide_eq_false (bi_z.mp g19)
      refine lv_iconst (v := 0) hx hb d_A_replace_29 (by decide) ?_
      have e2 : (cRepl N x z).2 = z := by first | ((try unfold cRepl); (repeat (first | rw [if_pos g8] | rw [if_neg g8] | rw [if_pos h8] | rw [if_neg h8] | rw [if_pos g19] | rw [if_neg g19] | rw [if_pos h19] | rw [if_neg h19] | rw [if_neg (show ¬ true = false by decide)] | rw [if_pos (show false = false from rfl)] | dsimp only)); first | done | rfl) | rfl | (simp [cRepl, bi, g8, h8, g19, h19]; done)
      exact W.zret (v := 0) (ty := .boolean) hx hb hr (rfl) (fun t ht hW => ⟨⟨_, (), rfl, by first | ((try unfold cRepl); (repeat (first | rw [if_pos g8] | rw [if_neg g8] | rw [if_pos h8] | rw [if_neg h8] | rw [if_pos g19] | rw [if_neg g19] | rw [if_pos h19] | rw [if_neg h19] | rw [if_neg (show ¬ true = false by decide)] | rw [if_pos (show false = false from rfl)] | dsimp only)); first | done | rfl) | rfl | (simp [cRepl, bi, g8, h8, g19, h19]; done), by show va_P D vwCl (wC cA q N S ((cRepl N x z).2)) t.heap; rw [ht, e2]; exact hP⟩, hS.F ht⟩) hS.2.2 d_A_replace_30
    · have h19 := of_decide_eq_true (bi_nz.mp g19)
      refine lv_aload_n hx hb d_A_replace_22 rfl (lv_at hl 0 rfl) ?_
      refine va_get (D := D) (ci := 3) (v := .int (cLe z)) (C := R_A) (T := T_A) (N := 11) hx hb hts (in_A) hown hK hP 0 rfl rfl 5 (by decide) (hts _ m_f_A_45) (fun _ h9 => h9) rfl d_A_replace_23 ?_
      refine lv_if_ne (tgt := 31) hx hb d_A_replace_26 rfl (fun g26 => ?_) (fun g26 => ?_)
      · refine lv_aload_n hx hb d_A_replace_31 rfl (lv_at hl 0 rfl) ?_
        refine lv_dup hx hb d_A_replace_32 rfl ?_
        refine va_get (D := D) (ci := 3) (v := .int (cLe z)) (C := R_A) (T := T_A) (N := 11) hx hb hts (in_A) hown hK hP 0 rfl rfl 5 (by decide) (hts _ m_f_A_45) (fun _ h9 => h9) rfl d_A_replace_33 ?_
        refine lv_iconst (v := 1) hx hb d_A_replace_36 (by decide) ?_
        refine lv_isub hx hb d_A_replace_37 ?_
        refine va_put (D := D) (ci := 3) (v := .int ((cLe z) - 1)) (ty := .int) (C := R_A) (T := T_A) (N := 11) hx hb hts (in_A) ty_A tyok_A nm_A hown hK hP hD hS 0 rfl rfl 5 (by decide) (hts _ m_f_A_45) (fun _ h9 => h9) rfl (by decide +kernel) rfl rfl (Nat.le_of_ble_eq_true rfl) d_A_replace_38 (fun H locs hP hD hS => ?_)
        have hP : va_P D vwCl (wC cA q N S (sLe z ((cLe z) - 1))) H := hP
        have hD : va_D (k_A (wC cA q N S z)) (wC cA q N S (sLe z ((cLe z) - 1))) := hD
        refine lv_aload_n hx hb d_A_replace_41 rfl (lv_at hl 0 rfl) ?_
        refine va_get (D := D) (ci := 3) (v := .ref (q 1)) (C := R_A) (T := T_A) (N := 11) hx hb hts (in_A) hown hK hP 0 rfl rfl 2 (by decide) (hts _ m_f_A_25) (fun _ h9 => h9) rfl d_A_replace_42 ?_
        refine lv_iload_n hx hb d_A_replace_45 rfl (lv_at hl 1 rfl) ?_
        refine k_wrv (va_runV (C := R_D) (As := [.int (nI (tn x))]) (rest := []) ⟨hx, hb, hml, hown, hts⟩ (c_Disks_beginRebuilding l D cA (q 1) (q 2) (q 3) N S (cW (sLe z ((cLe z) - 1))) (cP (sLe z ((cLe z) - 1))) (by omega) (by omega) (by omega) (by omega) (tn x) (by omega)) (k_cwV 1 hts m_code_D_beginRebuilding m_ini_D m_l_A_116 m_inst_D_beginRebuilding m_sel_D_beginRebuilding h_D_beginRebuilding rfl rfl ⟨Nat.le_of_ble_eq_true rfl, Nat.le_of_ble_eq_true rfl⟩) (k_pW hP hK hD [1, 2, 3] (by decide) rfl 1 0 rfl rfl) rfl rfl hl.1 rfl (lv_room (Nat.le_of_ble_eq_true rfl)) d_A_replace_46 ⟨Nat.zero_le _, Nat.zero_le _⟩) hS hD [1, 2, 3] rfl (fun u H1 locs _ hk hP1 hS => ?_)
        have hP : va_P D vwCl (wC cA q N S (sP (sLe z ((cLe z) - 1)) (upd (cP (sLe z ((cLe z) - 1))) (tn x) 0))) H1 := k_bk hP hD [1, 2, 3] [0, 4, 5, 6, 7] rfl (by decide) hk hP1 [0, 5, 6, 7, 1, 2, 3, 4] rfl
        have hD : va_D (k_A (wC cA q N S z)) (wC cA q N S (sP (sLe z ((cLe z) - 1)) (upd (cP (sLe z ((cLe z) - 1))) (tn x) 0))) := k_D hD rfl
        generalize H1 = H at hP hS ⊢
        refine lv_iconst (v := 1) hx hb d_A_replace_49 (by decide) ?_
        have e3 : (cRepl N x z).2 = sP (sLe z ((cLe z) - 1)) (upd (cP (sLe z ((cLe z) - 1))) (tn x) 0) := by first | ((try unfold cRepl); (repeat (first | rw [if_pos g8] | rw [if_neg g8] | rw [if_pos h8] | rw [if_neg h8] | rw [if_pos g19] | rw [if_neg g19] | rw [if_pos h19] | rw [if_neg h19] | rw [if_pos g26] | rw [if_neg g26] | rw [if_neg (show ¬ true = false by decide)] | rw [if_pos (show false = false from rfl)] | dsimp only)); first | done | rfl) | rfl | (simp [cRepl, bi, g8, h8, g19, h19, g26]; done)
        exact W.zret (v := 1) (ty := .boolean) hx hb hr (rfl) (fun t ht hW => ⟨⟨_, (), rfl, by first | ((try unfold cRepl); (repeat (first | rw [if_pos g8] | rw [if_neg g8] | rw [if_pos h8] | rw [if_neg h8] | rw [if_pos g19] | rw [if_neg g19] | rw [if_pos h19] | rw [if_neg h19] | rw [if_pos g26] | rw [if_neg g26] | rw [if_neg (show ¬ true = false by decide)] | rw [if_pos (show false = false from rfl)] | dsimp only)); first | done | rfl) | rfl | (simp [cRepl, bi, g8, h8, g19, h19, g26]; done), by show va_P D vwCl (wC cA q N S ((cRepl N x z).2)) t.heap; rw [ht, e3]; exact hP⟩, hS.F ht⟩) hS.2.2 d_A_replace_50
      · refine lv_iconst (v := 0) hx hb d_A_replace_29 (by decide) ?_
        have e4 : (cRepl N x z).2 = z := by first | ((try unfold cRepl); (repeat (first | rw [if_pos g8] | rw [if_neg g8] | rw [if_pos h8] | rw [if_neg h8] | rw [if_pos g19] | rw [if_neg g19] | rw [if_pos h19] | rw [if_neg h19] | rw [if_pos g26] | rw [if_neg g26] | rw [if_neg (show ¬ true = false by decide)] | rw [if_pos (show false = false from rfl)] | dsimp only)); first | done | rfl) | rfl | (simp [cRepl, bi, g8, h8, g19, h19, g26]; done)
        exact W.zret (v := 0) (ty := .boolean) hx hb hr (rfl) (fun t ht hW => ⟨⟨_, (), rfl, by first | ((try unfold cRepl); (repeat (first | rw [if_pos g8] | rw [if_neg g8] | rw [if_pos h8] | rw [if_neg h8] | rw [if_pos g19] | rw [if_neg g19] | rw [if_pos h19] | rw [if_neg h19] | rw [if_pos g26] | rw [if_neg g26] | rw [if_neg (show ¬ true = false by decide)] | rw [if_pos (show false = false from rfl)] | dsimp only)); first | done | rfl) | rfl | (simp [cRepl, bi, g8, h8, g19, h19, g26]; done), by show va_P D vwCl (wC cA q N S ((cRepl N x z).2)) t.heap; rw [ht, e4]; exact hP⟩, hS.F ht⟩) hS.2.2 d_A_replace_30
set_option maxHeartbeats 4000000 in
set_option maxRecDepth 100000 in
theorem c_DualParityArray_rebuild (l : Launch) (D : va_G) (cA : ClassId) (q : Nat → Nat) (N S : Nat) (z : CS) (gN4 : 4 ≤ N) (gN : N ≤ 10) (gS1 : 1 ≤ S) (gS : S ≤ 16) (hRP : RPos N S (cP z)) : Met l y_A_rebuild w_A_rebuild ({ frames := 5, cells := 0, slots := 0, locals := 118 }) (va_Pc [.ref (q 0)] (k_WT D [(cA, .int)] (wC cA q N S z))) (va_Qi (fun (r : Int32) (_ : Unit) => r = (cRb N S z).1) (fun _ t => va_P D vwCl (wC cA q N S ((cRb N S z).2)) t.heap) (k_A (wC cA q N S z))) 0 0 (k_A (wC cA q N S z)) := by
  refine Met.ofW (cc := b_A_rebuild) (maxL := 4) (ret := (some .int)) (by decide) rfl ?_
  intro p e s m args below meth c s₁ B hml hv
  obtain ⟨rfl, hP, hK, hD0, hTb⟩ := hv
  have hx := B.exec
  have hb := B.bytes
  have hr := B.returns
  have hts0 := atoms_spec (ws := w_A_rebuild) B.pre
  have hts : ∀ w ∈ lw_g, w.before _ s = true := fun w h => hts0 w (List.mem_cons_of_mem _ h)
  have hown : s.vm.findClass R_A = some m.cls := findClass_of_methodNamed B.named
  have hlocks := B.notSynchronized
  have hD := k_Dself hD0
  have hS : va_S (k_A (wC cA q N S z)) s.heap s.heap [] := va_S.rf
  have hl := lv_entry ([.ref (q 0)]) (n := 4) (Nat.le_of_ble_eq_true rfl)
  rw [lg_entry_eq]
  generalize (lg_sl ([.ref (q 0)]) ++ List.replicate (4 - (lg_sl ([.ref (q 0)])).length) Slot.unset).toArray = ls at hl ⊢
  have hl : lv_has ls 4 [(0, .ref (q 0))] := hl
  refine lv_aload_n hx hb d_A_rebuild_0 rfl (lv_at hl 0 rfl) ?_
  refine k_roi (va_runV (C := R_A) (As := []) (rest := []) ⟨hx, hb, hml, hown, hts⟩ (c_DualParityArray_refusal l D cA q N S z (by omega) (by omega) (by omega) (by omega)) (k_cwV 0 hts m_code_A_refusal m_ini_A m_l_A_57 m_inst_A_refusal m_sel_A_refusal h_A_refusal rfl rfl ⟨Nat.le_of_ble_eq_true rfl, Nat.le_of_ble_eq_true rfl⟩) (k_pR hP hK [0, 1, 2, 3, 4, 5, 6, 7] rfl 0 3 rfl rfl) rfl rfl hl.1 rfl (lv_room (Nat.le_of_ble_eq_true rfl)) d_A_rebuild_1 ⟨Nat.zero_le _, Nat.zero_le _⟩) ?_
  refine lv_istore_n (lv' := [(1, .int (cRef N S z)), (0, .ref (q 0))]) hx hb d_A_rebuild_4 rfl hl (by decide) rfl (fun ls hl => ?_)
  refine lv_iload_n hx hb d_A_rebuild_5 rfl (lv_at hl 0 rfl) ?_
  refine lv_if_eq (tgt := 11) hx hb d_A_rebuild_6 rfl (fun g6 => ?_) (fun g6 => ?_)
  · refine lv_aload_n hx hb d_A_rebuild_11 rfl (lv_at hl 1 rfl) ?_
    refine va_get (D := D) (ci := 3) (v := .ref (q 1)) (C := R_A) (T := T_A) (N := 11) hx hb hts (in_A) hown hK hP 0 rfl rfl 2 (by decide) (hts _ m_f_A_25) (fun _ h9 => h9) rfl d_A_rebuild_12 ?_
    refine k_roi (va_runV (C := R_D) (As := []) (rest := []) ⟨hx, hb, hml, hown, hts⟩ (c_Disks_nextToRebuild l D cA (q 1) (q 2) (q 3) N S (cW z) (cP z) (by omega) (by omega) (by omega) (by omega)) (k_cwV 0 hts m_code_D_nextToRebuild m_ini_D m_l_A_119 m_inst_D_nextToRebuild m_sel_D_nextToRebuild h_D_nextToRebuild rfl rfl ⟨Nat.le_of_ble_eq_true rfl, Nat.le_of_ble_eq_true rfl⟩) (k_pR hP hK [1, 2, 3] rfl 1 0 rfl rfl) rfl rfl hl.1 rfl (lv_room (Nat.le_of_ble_eq_true rfl)) d_A_rebuild_15 ⟨Nat.zero_le _, Nat.zero_le _⟩) ?_
    refine lv_istore_n (lv' := [(2, .int ((nxt (cP z) S N).1)), (1, .int (cRef N S z)), (0, .ref (q 0))]) hx hb d_A_rebuild_18 rfl hl (by decide) rfl (fun ls hl => ?_)
    refine lv_iload_n hx hb d_A_rebuild_19 rfl (lv_at hl 0 rfl) ?_
    refine lv_iconst (v := (-1)) hx hb d_A_rebuild_20 (by decide) ?_
    refine lv_icmp_ne (tgt := 27) hx hb d_A_rebuild_21 rfl (fun g21 => ?_) (fun g21 => ?_)
    · obtain ⟨hd1, hd2, hd3, hd4⟩ := rb_nx gN gS hRP g21
      have hl : lv_has ls 4 [(2, .int (nI (tn (nxt (cP z) S N).1))), (1, .int (cRef N S z)), (0, .ref (q 0))] := by rw [← hd2]; exact hl
      refine lv_aload_n hx hb d_A_rebuild_27 rfl (lv_at hl 2 rfl) ?_
      refine va_get (D := D) (ci := 3) (v := .ref (q 1)) (C := R_A) (T := T_A) (N := 11) hx hb hts (in_A) hown hK hP 0 rfl rfl 2 (by decide) (hts _ m_f_A_25) (fun _ h9 => h9) rfl d_A_rebuild_28 ?_
      refine lv_iload_n hx hb d_A_rebuild_31 rfl (lv_at hl 0 rfl) ?_
      refine k_roi (va_runV (C := R_D) (As := [.int (nI (tn (nxt (cP z) S N).1))]) (rest := []) ⟨hx, hb, hml, hown, hts⟩ (c_Disks_positionOf l D cA (q 1) (q 2) (q 3) N S (cW z) (cP z) (by omega) (by omega) (by omega) (by omega) (tn (nxt (cP z) S N).1) (by omega)) (k_cwV 1 hts m_code_D_positionOf m_ini_D m_l_A_122 m_inst_D_positionOf m_sel_D_positionOf h_D_positionOf rfl rfl ⟨Nat.le_of_ble_eq_true rfl, Nat.le_of_ble_eq_true rfl⟩) (k_pR hP hK [1, 2, 3] rfl 1 0 rfl rfl) rfl rfl hl.1 rfl (lv_room (Nat.le_of_ble_eq_true rfl)) d_A_rebuild_32 ⟨Nat.zero_le _, Nat.zero_le _⟩) ?_
      refine k_top (nI (tn (cP z (tn (nxt (cP z) S N).1)))) (by exact hd4) ?_
      refine lv_istore_n (lv' := [(3, .int (nI (tn (cP z (tn (nxt (cP z) S N).1))))), (2, .int (nI (tn (nxt (cP z) S N).1))), (1, .int (cRef N S z)), (0, .ref (q 0))]) hx hb d_A_rebuild_35 rfl hl (by decide) rfl (fun ls hl => ?_)
      refine lv_aload_n hx hb d_A_rebuild_36 rfl (lv_at hl 3 rfl) ?_
      refine lv_iload_n hx hb d_A_rebuild_37 rfl (lv_at hl 0 rfl) ?_
      refine k_wrv (va_runV (C := R_A) (As := [.int (nI (tn (cP z (tn (nxt (cP z) S N).1))))]) (rest := []) ⟨hx, hb, hml, hown, hts⟩ (c_DualParityArray_readAvailableCells l D cA q N S z (by omega) (by omega) (by omega) (by omega) (tn (cP z (tn (nxt (cP z) S N).1))) (by omega)) (k_cwV 1 hts m_code_A_readAvailableCells m_ini_A m_l_A_79 m_inst_A_readAvailableCells m_sel_A_readAvailableCells h_A_readAvailableCells rfl rfl ⟨Nat.le_of_ble_eq_true rfl, Nat.le_of_ble_eq_true rfl⟩) (k_pT hP hK hD hTb hS [0, 1, 2, 3, 4, 5, 6, 7] (by decide) rfl 0 3 rfl rfl) rfl rfl hl.1 rfl (lv_room (Nat.le_of_ble_eq_true rfl)) d_A_rebuild_38 ⟨Nat.zero_le _, Nat.zero_le _⟩) hS hD [0, 1, 2, 3, 4, 5, 6, 7] rfl (fun u H1 locs _ hk hP1 hS => ?_)
      obtain ⟨u1, hu1⟩ : ∃ w, w = cRA N S (tn (cP z (tn (nxt (cP z) S N).1))) z := ⟨_, rfl⟩
      have hP : va_P D vwCl (wC cA q N S u1) H1 := by rw [hu1]; exact hP1
      have hD : va_D (k_A (wC cA q N S z)) (wC cA q N S u1) := k_D hD rfl
      generalize H1 = H at hP hS ⊢
      refine lv_aload_n hx hb d_A_rebuild_41 rfl (lv_at hl 3 rfl) ?_
      refine lv_iload_n hx hb d_A_rebuild_42 rfl (lv_at hl 1 rfl) ?_
      refine lv_iload_n hx hb d_A_rebuild_43 rfl (lv_at hl 0 rfl) ?_
      refine lv_aload_n hx hb d_A_rebuild_44 rfl (lv_at hl 3 rfl) ?_
      refine va_get (D := D) (ci := 3) (v := .ref (q 4)) (C := R_A) (T := T_A) (N := 11) hx hb hts (in_A) hown hK hP 0 rfl rfl 4 (by decide) (hts _ m_f_A_41) (fun _ h9 => h9) rfl d_A_rebuild_45 ?_
      refine lv_aload_n hx hb d_A_rebuild_48 rfl (lv_at hl 3 rfl) ?_
      refine va_get (D := D) (ci := 3) (v := .ref (q 1)) (C := R_A) (T := T_A) (N := 11) hx hb hts (in_A) hown hK hP 0 rfl rfl 2 (by decide) (hts _ m_f_A_25) (fun _ h9 => h9) rfl d_A_rebuild_49 ?_
      refine lv_iload_n hx hb d_A_rebuild_52 rfl (lv_at hl 1 rfl) ?_
      refine lv_iload_n hx hb d_A_rebuild_53 rfl (lv_at hl 0 rfl) ?_
      refine k_roi (va_runV (C := R_D) (As := [.int (nI (tn (nxt (cP z) S N).1)), .int (nI (tn (cP z (tn (nxt (cP z) S N).1))))]) (rest := [.ref (q 4), .int (nI (tn (cP z (tn (nxt (cP z) S N).1)))), .int (nI (tn (nxt (cP z) S N).1)), .ref (q 0)]) ⟨hx, hb, hml, hown, hts⟩ (c_Disks_slotOf l D cA (q 1) (q 2) (q 3) N S (cW u1) (cP u1) (by omega) (by omega) (by omega) (by omega) (tn (nxt (cP z) S N).1) (tn (cP z (tn (nxt (cP z) S N).1))) (by omega) (by omega)) (k_cwV 2 hts m_code_D_slotOf m_ini_D m_l_A_125 m_inst_D_slotOf m_sel_D_slotOf h_D_slotOf rfl rfl ⟨Nat.le_of_ble_eq_true rfl, Nat.le_of_ble_eq_true rfl⟩) (k_pR hP hK [1, 2, 3] rfl 1 0 rfl rfl) rfl rfl hl.1 rfl (lv_room (Nat.le_of_ble_eq_true rfl)) d_A_rebuild_54 ⟨Nat.zero_le _, Nat.zero_le _⟩) ?_
      have f2 : slt N (tn (nxt (cP z) S N).1) (tn (cP z (tn (nxt (cP z) S N).1))) < N := slt_lt (by omega)
      refine k_roi (va_runV (C := R_S) (As := [.int (nI (slt N (tn (nxt (cP z) S N).1) (tn (cP z (tn (nxt (cP z) S N).1)))))]) (rest := [.int (nI (tn (cP z (tn (nxt (cP z) S N).1)))), .int (nI (tn (nxt (cP z) S N).1)), .ref (q 0)]) ⟨hx, hb, hml, hown, hts⟩ (c_Stripe_valueOf l D cA (q 4) (q 5) N (cV u1) (by omega) (by omega) (slt N (tn (nxt (cP z) S N).1) (tn (cP z (tn (nxt (cP z) S N).1)))) (by omega)) (k_cwV 1 hts m_code_S_valueOf m_ini_S m_l_A_82 m_inst_S_valueOf m_sel_S_valueOf h_S_valueOf rfl rfl ⟨Nat.le_of_ble_eq_true rfl, Nat.le_of_ble_eq_true rfl⟩) (k_pR hP hK [4, 5] rfl 4 2 rfl rfl) rfl rfl hl.1 rfl (lv_room (Nat.le_of_ble_eq_true rfl)) d_A_rebuild_57 ⟨Nat.zero_le _, Nat.zero_le _⟩) ?_
      refine k_wri (va_runV (C := R_A) (As := [.int (nI (tn (nxt (cP z) S N).1)), .int (nI (tn (cP z (tn (nxt (cP z) S N).1)))), .int ((cV u1) (slt N (tn (nxt (cP z) S N).1) (tn (cP z (tn (nxt (cP z) S N).1)))))]) (rest := []) ⟨hx, hb, hml, hown, hts⟩ (c_DualParityArray_writeCell l D cA q N S u1 (by omega) (by omega) (by omega) (by omega) (tn (nxt (cP z) S N).1) (tn (cP z (tn (nxt (cP z) S N).1))) ((cV u1) (slt N (tn (nxt (cP z) S N).1) (tn (cP z (tn (nxt (cP z) S N).1))))) (by omega) (by omega)) (k_cwV 3 hts m_code_A_writeCell m_ini_A m_l_A_128 m_inst_A_writeCell m_sel_A_writeCell h_A_writeCell rfl rfl ⟨Nat.le_of_ble_eq_true rfl, Nat.le_of_ble_eq_true rfl⟩) (k_pW hP hK hD [0, 1, 2, 3, 4, 5, 6, 7] (by decide) rfl 0 3 rfl rfl) rfl rfl hl.1 rfl (lv_room (Nat.le_of_ble_eq_true rfl)) d_A_rebuild_60 ⟨Nat.zero_le _, Nat.zero_le _⟩) hS hD [0, 1, 2, 3, 4, 5, 6, 7] rfl (fun r u H1 locs hp hk hP1 hS => ?_)
      subst hp
      obtain ⟨u3, hu3⟩ : ∃ w, w = (cWr S (tn (nxt (cP z) S N).1) (tn (cP z (tn (nxt (cP z) S N).1))) ((cV u1) (slt N (tn (nxt (cP z) S N).1) (tn (cP z (tn (nxt (cP z) S N).1))))) u1).2 := ⟨_, rfl⟩
      have hP : va_P D vwCl (wC cA q N S u3) H1 := by rw [hu3]; exact hP1
      have hD : va_D (k_A (wC cA q N S z)) (wC cA q N S u3) := k_D hD rfl
      generalize H1 = H at hP hS ⊢
      refine lv_if_ne (tgt := 69) hx hb d_A_rebuild_63 rfl (fun g63 => ?_) (fun g63 => ?_)
      · have h63 := bi_nz.mp g63
        refine lv_aload_n hx hb d_A_rebuild_69 rfl (lv_at hl 3 rfl) ?_
        refine k_wri (va_runV (C := R_A) (As := []) (rest := []) ⟨hx, hb, hml, hown, hts⟩ (c_DualParityArray_beginAct l D cA q N S u3 (by omega) (by omega) (by omega) (by omega)) (k_cwV 0 hts m_code_A_beginAct m_ini_A m_l_A_132 m_inst_A_beginAct m_sel_A_beginAct h_A_beginAct rfl rfl ⟨Nat.le_of_ble_eq_true rfl, Nat.le_of_ble_eq_true rfl⟩) (k_pW hP hK hD [0, 1, 2, 3, 4, 5, 6, 7] (by decide) rfl 0 3 rfl rfl) rfl rfl hl.1 rfl (lv_room (Nat.le_of_ble_eq_true rfl)) d_A_rebuild_70 ⟨Nat.zero_le _, Nat.zero_le _⟩) hS hD [0, 1, 2, 3, 4, 5, 6, 7] rfl (fun r u H1 locs hp hk hP1 hS => ?_)
        subst hp
        obtain ⟨u4, hu4⟩ : ∃ w, w = (cBeg u3).2 := ⟨_, rfl⟩
        have hP : va_P D vwCl (wC cA q N S u4) H1 := by rw [hu4]; exact hP1
        have hD : va_D (k_A (wC cA q N S z)) (wC cA q N S u4) := k_D hD rfl
        generalize H1 = H at hP hS ⊢
        refine lv_if_ne (tgt := 79) hx hb d_A_rebuild_73 rfl (fun g73 => ?_) (fun g73 => ?_)
        · have h73 := bi_nz.mp g73
          refine lv_aload_n hx hb d_A_rebuild_79 rfl (lv_at hl 3 rfl) ?_
          refine va_get (D := D) (ci := 3) (v := .ref (q 1)) (C := R_A) (T := T_A) (N := 11) hx hb hts (in_A) hown hK hP 0 rfl rfl 2 (by decide) (hts _ m_f_A_25) (fun _ h9 => h9) rfl d_A_rebuild_80 ?_
          refine lv_iload_n hx hb d_A_rebuild_83 rfl (lv_at hl 1 rfl) ?_
          refine k_wrv (va_runV (C := R_D) (As := [.int (nI (tn (nxt (cP z) S N).1))]) (rest := []) ⟨hx, hb, hml, hown, hts⟩ (c_Disks_advance l D cA (q 1) (q 2) (q 3) N S (cW u4) (cP u4) (by omega) (by omega) (by omega) (by omega) (tn (nxt (cP z) S N).1) (by omega)) (k_cwV 1 hts m_code_D_advance m_ini_D m_l_A_136 m_inst_D_advance m_sel_D_advance h_D_advance rfl rfl ⟨Nat.le_of_ble_eq_true rfl, Nat.le_of_ble_eq_true rfl⟩) (k_pW hP hK hD [1, 2, 3] (by decide) rfl 1 0 rfl rfl) rfl rfl hl.1 rfl (lv_room (Nat.le_of_ble_eq_true rfl)) d_A_rebuild_84 ⟨Nat.zero_le _, Nat.zero_le _⟩) hS hD [1, 2, 3] rfl (fun u H1 locs _ hk hP1 hS => ?_)
          have hP : va_P D vwCl (wC cA q N S (sP u4 (upd (cP u4) (tn (nxt (cP z) S N).1) ((cP u4) (tn (nxt (cP z) S N).1) + 1)))) H1 := k_bk hP hD [1, 2, 3] [0, 4, 5, 6, 7] rfl (by decide) hk hP1 [0, 5, 6, 7, 1, 2, 3, 4] rfl
          have hD : va_D (k_A (wC cA q N S z)) (wC cA q N S (sP u4 (upd (cP u4) (tn (nxt (cP z) S N).1) ((cP u4) (tn (nxt (cP z) S N).1) + 1)))) := k_D hD rfl
          generalize H1 = H at hP hS ⊢
          refine lv_aload_n hx hb d_A_rebuild_87 rfl (lv_at hl 3 rfl) ?_
          refine va_get (D := D) (ci := 3) (v := .int (nI S)) (C := R_A) (T := T_A) (N := 11) hx hb hts (in_A) hown hK hP 0 rfl rfl 0 (by decide) (hts _ m_f_A_13) (fun _ h9 => h9) rfl d_A_rebuild_88 ?_
          refine lv_aload_n hx hb d_A_rebuild_91 rfl (lv_at hl 3 rfl) ?_
          refine va_get (D := D) (ci := 3) (v := .ref (q 1)) (C := R_A) (T := T_A) (N := 11) hx hb hts (in_A) hown hK hP 0 rfl rfl 2 (by decide) (hts _ m_f_A_25) (fun _ h9 => h9) rfl d_A_rebuild_92 ?_
          refine lv_iload_n hx hb d_A_rebuild_95 rfl (lv_at hl 1 rfl) ?_
          refine k_roi (va_runV (C := R_D) (As := [.int (nI (tn (nxt (cP z) S N).1))]) (rest := [.int (nI S)]) ⟨hx, hb, hml, hown, hts⟩ (c_Disks_positionOf l D cA (q 1) (q 2) (q 3) N S (cW (sP u4 (upd (cP u4) (tn (nxt (cP z) S N).1) ((cP u4) (tn (nxt (cP z) S N).1) + 1)))) (cP (sP u4 (upd (cP u4) (tn (nxt (cP z) S N).1) ((cP u4) (tn (nxt (cP z) S N).1) + 1)))) (by omega) (by omega) (by omega) (by omega) (tn (nxt (cP z) S N).1) (by omega)) (k_cwV 1 hts m_code_D_positionOf m_ini_D m_l_A_122 m_inst_D_positionOf m_sel_D_positionOf h_D_positionOf rfl rfl ⟨Nat.le_of_ble_eq_true rfl, Nat.le_of_ble_eq_true rfl⟩) (k_pR hP hK [1, 2, 3] rfl 1 0 rfl rfl) rfl rfl hl.1 rfl (lv_room (Nat.le_of_ble_eq_true rfl)) d_A_rebuild_96 ⟨Nat.zero_le _, Nat.zero_le _⟩) ?_
          refine lv_isub hx hb d_A_rebuild_99 ?_
          have e5 : (cRb N S z).2 = sP u4 (upd (cP u4) (tn (nxt (cP z) S N).1) ((cP u4) (tn (nxt (cP z) S N).1) + 1)) := by subst hu4; subst hu3; subst hu1; first | ((try unfold cRb); (try unfold cRb1); (try unfold cRb2); (repeat (first | rw [if_pos g6] | rw [if_neg g6] | rw [if_pos g21] | rw [if_neg g21] | rw [if_pos g63] | rw [if_neg g63] | rw [if_pos h63] | rw [if_neg h63] | rw [if_pos g73] | rw [if_neg g73] | rw [if_pos h73] | rw [if_neg h73] | rw [if_neg (show ¬ true = false by decide)] | rw [if_pos (show false = false from rfl)] | dsimp only)); first | done | rfl) | rfl | (simp [cRb, cRb1, cRb2, g6, g21, g63, h63, g73, h73]; done)
          exact W.iret (v := (nI S) - ((cP (sP u4 (upd (cP u4) (tn (nxt (cP z) S N).1) ((cP u4) (tn (nxt (cP z) S N).1) + 1)))) (tn (nxt (cP z) S N).1))) hx hb hr (fun t ht hW => ⟨⟨_, (), rfl, by subst hu4; subst hu3; subst hu1; first | ((try unfold cRb); (try unfold cRb1); (try unfold cRb2); (repeat (first | rw [if_pos g6] | rw [if_neg g6] | rw [if_pos g21] | rw [if_neg g21] | rw [if_pos g63] | rw [if_neg g63] | rw [if_pos h63] | rw [if_neg h63] | rw [if_pos g73] | rw [if_neg g73] | rw [if_pos h73] | rw [if_neg h73] | rw [if_neg (show ¬ true = false by decide)] | rw [if_pos (show false = false from rfl)] | dsimp only)); first | done | rfl) | rfl | (simp [cRb, cRb1, cRb2, g6, g21, g63, h63, g73, h73]; done), by show va_P D vwCl (wC cA q N S ((cRb N S z).2)) t.heap; rw [ht, e5]; exact hP⟩, hS.F ht⟩) hS.2.2 d_A_rebuild_100
        · have h73 := bi_z.mp g73
          refine lv_bipush (v := (-4)) hx hb d_A_rebuild_76 (by decide) ?_
          have e6 : (cRb N S z).2 = u4 := by subst hu4; subst hu3; subst hu1; first | ((try unfold cRb); (try unfold cRb1); (try unfold cRb2); (repeat (first | rw [if_pos g6] | rw [if_neg g6] | rw [if_pos g21] | rw [if_neg g21] | rw [if_pos g63] | rw [if_neg g63] | rw [if_pos h63] | rw [if_neg h63] | rw [if_pos g73] | rw [if_neg g73] | rw [if_pos h73] | rw [if_neg h73] | rw [if_neg (show ¬ true = false by decide)] | rw [if_pos (show false = false from rfl)] | dsimp only)); first | done | rfl) | rfl | (simp [cRb, cRb1, cRb2, g6, g21, g63, h63, g73, h73]; done)
          exact W.iret (v := (-4)) hx hb hr (fun t ht hW => ⟨⟨_, (), rfl, by subst hu4; subst hu3; subst hu1; first | ((try unfold cRb); (try unfold cRb1); (try unfold cRb2); (repeat (first | rw [if_pos g6] | rw [if_neg g6] | rw [if_pos g21] | rw [if_neg g21] | rw [if_pos g63] | rw [if_neg g63] | rw [if_pos h63] | rw [if_neg h63] | rw [if_pos g73] | rw [if_neg g73] | rw [if_pos h73] | rw [if_neg h73] | rw [if_neg (show ¬ true = false by decide)] | rw [if_pos (show false = false from rfl)] | dsimp only)); first | done | rfl) | rfl | (simp [cRb, cRb1, cRb2, g6, g21, g63, h63, g73, h73]; done), by show va_P D vwCl (wC cA q N S ((cRb N S z).2)) t.heap; rw [ht, e6]; exact hP⟩, hS.F ht⟩) hS.2.2 d_A_rebuild_78
      · have h63 := bi_z.mp g63
        refine lv_bipush (v := (-4)) hx hb d_A_rebuild_66 (by decide) ?_
        have e7 : (cRb N S z).2 = u3 := by subst hu3; subst hu1; first | ((try unfold cRb); (try unfold cRb1); (try unfold cRb2); (repeat (first | rw [if_pos g6] | rw [if_neg g6] | rw [if_pos g21] | rw [if_neg g21] | rw [if_pos g63] | rw [if_neg g63] | rw [if_pos h63] | rw [if_neg h63] | rw [if_neg (show ¬ true = false by decide)] | rw [if_pos (show false = false from rfl)] | dsimp only)); first | done | rfl) | rfl | (simp [cRb, cRb1, cRb2, g6, g21, g63, h63]; done)
        exact W.iret (v := (-4)) hx hb hr (fun t ht hW => ⟨⟨_, (), rfl, by subst hu3; subst hu1; first | ((try unfold cRb); (try unfold cRb1); (try unfold cRb2); (repeat (first | rw [if_pos g6] | rw [if_neg g6] | rw [if_pos g21] | rw [if_neg g21] | rw [if_pos g63] | rw [if_neg g63] | rw [if_pos h63] | rw [if_neg h63] | rw [if_neg (show ¬ true = false by decide)] | rw [if_pos (show false = false from rfl)] | dsimp only)); first | done | rfl) | rfl | (simp [cRb, cRb1, cRb2, g6, g21, g63, h63]; done), by show va_P D vwCl (wC cA q N S ((cRb N S z).2)) t.heap; rw [ht, e7]; exact hP⟩, hS.F ht⟩) hS.2.2 d_A_rebuild_68
    · refine lv_bipush (v := (-5)) hx hb d_A_rebuild_24 (by decide) ?_
      have e8 : (cRb N S z).2 = z := by first | ((try unfold cRb); (try unfold cRb1); (try unfold cRb2); (repeat (first | rw [if_pos g6] | rw [if_neg g6] | rw [if_pos g21] | rw [if_neg g21] | rw [if_neg (show ¬ true = false by decide)] | rw [if_pos (show false = false from rfl)] | dsimp only)); first | done | rfl) | rfl | (simp [cRb, cRb1, cRb2, g6, g21]; done)
      exact W.iret (v := (-5)) hx hb hr (fun t ht hW => ⟨⟨_, (), rfl, by first | ((try unfold cRb); (try unfold cRb1); (try unfold cRb2); (repeat (first | rw [if_pos g6] | rw [if_neg g6] | rw [if_pos g21] | rw [if_neg g21] | rw [if_neg (show ¬ true = false by decide)] | rw [if_pos (show false = false from rfl)] | dsimp only)); first | done | rfl) | rfl | (simp [cRb, cRb1, cRb2, g6, g21]; done), by show va_P D vwCl (wC cA q N S ((cRb N S z).2)) t.heap; rw [ht, e8]; exact hP⟩, hS.F ht⟩) hS.2.2 d_A_rebuild_26
  · refine lv_iload_n hx hb d_A_rebuild_9 rfl (lv_at hl 0 rfl) ?_
    have e9 : (cRb N S z).2 = z := by first | ((try unfold cRb); (try unfold cRb1); (try unfold cRb2); (repeat (first | rw [if_pos g6] | rw [if_neg g6] | rw [if_neg (show ¬ true = false by decide)] | rw [if_pos (show false = false from rfl)] | dsimp only)); first | done | rfl) | rfl | (simp [cRb, cRb1, cRb2, g6]; done)
    exact W.iret (v := cRef N S z) hx hb hr (fun t ht hW => ⟨⟨_, (), rfl, by first | ((try unfold cRb); (try unfold cRb1); (try unfold cRb2); (repeat (first | rw [if_pos g6] | rw [if_neg g6] | rw [if_neg (show ¬ true = false by decide)] | rw [if_pos (show false = false from rfl)] | dsimp only)); first | done | rfl) | rfl | (simp [cRb, cRb1, cRb2, g6]; done), by show va_P D vwCl (wC cA q N S ((cRb N S z).2)) t.heap; rw [ht, e9]; exact hP⟩, hS.F ht⟩) hS.2.2 d_A_rebuild_10
set_option maxHeartbeats 4000000 in
set_option maxRecDepth 100000 in
theorem c_DualParityArray_scrub (l : Launch) (D : va_G) (cA : ClassId) (q : Nat → Nat) (N S : Nat) (z : CS) (gN4 : 4 ≤ N) (gN : N ≤ 10) (gS1 : 1 ≤ S) (gS : S ≤ 16) (x : Int32) : Met l y_A_scrub w_A_scrub ({ frames := 5, cells := 0, slots := 0, locals := 118 }) (va_Pc [.ref (q 0), .int x] (k_WT D [(cA, .int)] (wC cA q N S z))) (va_Qi (fun (r : Int32) (_ : Unit) => r = (cSc N S x z).1) (fun _ t => va_P D vwCl (wC cA q N S ((cSc N S x z).2)) t.heap) (k_A (wC cA q N S z))) 0 0 (k_A (wC cA q N S z)) := by
  refine Met.ofW (cc := b_A_scrub) (maxL := 5) (ret := (some .int)) (by decide) rfl ?_
  intro p e s m args below meth c s₁ B hml hv
  obtain ⟨rfl, hP, hK, hD0, hTb⟩ := hv
  have hx := B.exec
  have hb := B.bytes
  have hr := B.returns
  have hts0 := atoms_spec (ws := w_A_scrub) B.pre
  have hts : ∀ w ∈ lw_g, w.before _ s = true := fun w h => hts0 w (List.mem_cons_of_mem _ h)
  have hown : s.vm.findClass R_A = some m.cls := findClass_of_methodNamed B.named
  have hlocks := B.notSynchronized
  have hD := k_Dself hD0
  have hS : va_S (k_A (wC cA q N S z)) s.heap s.heap [] := va_S.rf
  have hl := lv_entry ([.ref (q 0), .int x]) (n := 5) (Nat.le_of_ble_eq_true rfl)
  rw [lg_entry_eq]
  generalize (lg_sl ([.ref (q 0), .int x]) ++ List.replicate (5 - (lg_sl ([.ref (q 0), .int x])).length) Slot.unset).toArray = ls at hl ⊢
  have hl : lv_has ls 5 [(0, .ref (q 0)), (1, .int x)] := hl
  refine lv_aload_n hx hb d_A_scrub_0 rfl (lv_at hl 0 rfl) ?_
  refine va_get (D := D) (ci := 3) (v := .ref (q 1)) (C := R_A) (T := T_A) (N := 11) hx hb hts (in_A) hown hK hP 0 rfl rfl 2 (by decide) (hts _ m_f_A_25) (fun _ h9 => h9) rfl d_A_scrub_1 ?_
  refine lv_iload_n hx hb d_A_scrub_4 rfl (lv_at hl 1 rfl) ?_
  refine k_roi (va_runV (C := R_D) (As := [.int x]) (rest := []) ⟨hx, hb, hml, hown, hts⟩ (c_Disks_hasStripe l D cA (q 1) (q 2) (q 3) N S (cW z) (cP z) (by omega) (by omega) (by omega) (by omega) x) (k_cwV 1 hts m_code_D_hasStripe m_ini_D m_l_A_139 m_inst_D_hasStripe m_sel_D_hasStripe h_D_hasStripe rfl rfl ⟨Nat.le_of_ble_eq_true rfl, Nat.le_of_ble_eq_true rfl⟩) (k_pR hP hK [1, 2, 3] rfl 1 0 rfl rfl) rfl rfl hl.1 rfl (lv_room (Nat.le_of_ble_eq_true rfl)) d_A_scrub_5 ⟨Nat.zero_le _, Nat.zero_le _⟩) ?_
  refine lv_if_ne (tgt := 13) hx hb d_A_scrub_8 rfl (fun g8 => ?_) (fun g8 => ?_)
  · have h8 := of_decide_eq_true (bi_nz.mp g8)
    refine lv_aload_n hx hb d_A_scrub_13 rfl (lv_at hl 0 rfl) ?_
    refine k_roi (va_runV (C := R_A) (As := []) (rest := []) ⟨hx, hb, hml, hown, hts⟩ (c_DualParityArray_refusal l D cA q N S z (by omega) (by omega) (by omega) (by omega)) (k_cwV 0 hts m_code_A_refusal m_ini_A m_l_A_57 m_inst_A_refusal m_sel_A_refusal h_A_refusal rfl rfl ⟨Nat.le_of_ble_eq_true rfl, Nat.le_of_ble_eq_true rfl⟩) (k_pR hP hK [0, 1, 2, 3, 4, 5, 6, 7] rfl 0 3 rfl rfl) rfl rfl hl.1 rfl (lv_room (Nat.le_of_ble_eq_true rfl)) d_A_scrub_14 ⟨Nat.zero_le _, Nat.zero_le _⟩) ?_
    refine lv_istore_n (lv' := [(2, .int (cRef N S z)), (0, .ref (q 0)), (1, .int x)]) hx hb d_A_scrub_17 rfl hl (by decide) rfl (fun ls hl => ?_)
    refine lv_iload_n hx hb d_A_scrub_18 rfl (lv_at hl 0 rfl) ?_
    refine lv_if_eq (tgt := 24) hx hb d_A_scrub_19 rfl (fun g19 => ?_) (fun g19 => ?_)
    · refine lv_aload_n hx hb d_A_scrub_24 rfl (lv_at hl 1 rfl) ?_
      refine va_get (D := D) (ci := 3) (v := .ref (q 1)) (C := R_A) (T := T_A) (N := 11) hx hb hts (in_A) hown hK hP 0 rfl rfl 2 (by decide) (hts _ m_f_A_25) (fun _ h9 => h9) rfl d_A_scrub_25 ?_
      refine lv_iload_n hx hb d_A_scrub_28 rfl (lv_at hl 2 rfl) ?_
      refine k_roi (va_runV (C := R_D) (As := [.int x]) (rest := []) ⟨hx, hb, hml, hown, hts⟩ (c_Disks_allAvailable l D cA (q 1) (q 2) (q 3) N S (cW z) (cP z) (by omega) (by omega) (by omega) (by omega) x) (k_cwV 1 hts m_code_D_allAvailable m_ini_D m_l_A_142 m_inst_D_allAvailable m_sel_D_allAvailable h_D_allAvailable rfl rfl ⟨Nat.le_of_ble_eq_true rfl, Nat.le_of_ble_eq_true rfl⟩) (k_pR hP hK [1, 2, 3] rfl 1 0 rfl rfl) rfl rfl hl.1 rfl (lv_room (Nat.le_of_ble_eq_true rfl)) d_A_scrub_29 ⟨Nat.zero_le _, Nat.zero_le _⟩) ?_
      refine lv_if_ne (tgt := 38) hx hb d_A_scrub_32 rfl (fun g32 => ?_) (fun g32 => ?_)
      · have h32 := of_decide_eq_true (bi_nz.mp g32)
        obtain ⟨hx1, hx2⟩ := tn_of (by omega) h8
        have hl : lv_has ls 5 [(2, .int (cRef N S z)), (0, .ref (q 0)), (1, .int (nI (tn x)))] := by rw [← hx2]; exact hl
        refine lv_aload_n hx hb d_A_scrub_38 rfl (lv_at hl 1 rfl) ?_
        refine lv_iload_n hx hb d_A_scrub_39 rfl (lv_at hl 2 rfl) ?_
        refine k_wrv (va_runV (C := R_A) (As := [.int (nI (tn x))]) (rest := []) ⟨hx, hb, hml, hown, hts⟩ (c_DualParityArray_readAvailableCells l D cA q N S z (by omega) (by omega) (by omega) (by omega) (tn x) (by omega)) (k_cwV 1 hts m_code_A_readAvailableCells m_ini_A m_l_A_79 m_inst_A_readAvailableCells m_sel_A_readAvailableCells h_A_readAvailableCells rfl rfl ⟨Nat.le_of_ble_eq_true rfl, Nat.le_of_ble_eq_true rfl⟩) (k_pT hP hK hD hTb hS [0, 1, 2, 3, 4, 5, 6, 7] (by decide) rfl 0 3 rfl rfl) rfl rfl hl.1 rfl (lv_room (Nat.le_of_ble_eq_true rfl)) d_A_scrub_40 ⟨Nat.zero_le _, Nat.zero_le _⟩) hS hD [0, 1, 2, 3, 4, 5, 6, 7] rfl (fun u H1 locs _ hk hP1 hS => ?_)
        obtain ⟨u1, hu1⟩ : ∃ w, w = cRA N S (tn x) z := ⟨_, rfl⟩
        have hP : va_P D vwCl (wC cA q N S u1) H1 := by rw [hu1]; exact hP1
        have hD : va_D (k_A (wC cA q N S z)) (wC cA q N S u1) := k_D hD rfl
        generalize H1 = H at hP hS ⊢
        refine lv_aload_n hx hb d_A_scrub_43 rfl (lv_at hl 1 rfl) ?_
        refine va_get (D := D) (ci := 3) (v := .ref (q 4)) (C := R_A) (T := T_A) (N := 11) hx hb hts (in_A) hown hK hP 0 rfl rfl 4 (by decide) (hts _ m_f_A_41) (fun _ h9 => h9) rfl d_A_scrub_44 ?_
        refine k_roi (va_runV (C := R_S) (As := []) (rest := []) ⟨hx, hb, hml, hown, hts⟩ (c_Stripe_meetsBothEquations l D cA (q 4) (q 5) N (cV u1) (by omega) (by omega)) (k_cwV 0 hts m_code_S_meetsBothEquations m_ini_S m_l_A_145 m_inst_S_meetsBothEquations m_sel_S_meetsBothEquations h_S_meetsBothEquations rfl rfl ⟨Nat.le_of_ble_eq_true rfl, Nat.le_of_ble_eq_true rfl⟩) (k_pR hP hK [4, 5] rfl 4 2 rfl rfl) rfl rfl hl.1 rfl (lv_room (Nat.le_of_ble_eq_true rfl)) d_A_scrub_47 ⟨Nat.zero_le _, Nat.zero_le _⟩) ?_
        refine lv_if_eq (tgt := 55) hx hb d_A_scrub_50 rfl (fun g50 => ?_) (fun g50 => ?_)
        · have h50 := of_decide_eq_false (bi_z.mp g50)
          refine lv_aload_n hx hb d_A_scrub_55 rfl (lv_at hl 1 rfl) ?_
          refine va_get (D := D) (ci := 3) (v := .ref (q 4)) (C := R_A) (T := T_A) (N := 11) hx hb hts (in_A) hown hK hP 0 rfl rfl 4 (by decide) (hts _ m_f_A_41) (fun _ h9 => h9) rfl d_A_scrub_56 ?_
          refine k_roi (va_runV (C := R_S) (As := []) (rest := []) ⟨hx, hb, hml, hown, hts⟩ (c_Stripe_slotAtFault l D cA (q 4) (q 5) N (cV u1) (by omega) (by omega)) (k_cwV 0 hts m_code_S_slotAtFault m_ini_S m_l_A_148 m_inst_S_slotAtFault m_sel_S_slotAtFault h_S_slotAtFault rfl rfl ⟨Nat.le_of_ble_eq_true rfl, Nat.le_of_ble_eq_true rfl⟩) (k_pR hP hK [4, 5] rfl 4 2 rfl rfl) rfl rfl hl.1 rfl (lv_room (Nat.le_of_ble_eq_true rfl)) d_A_scrub_59 ⟨Nat.zero_le _, Nat.zero_le _⟩) ?_
          refine lv_istore_n (lv' := [(3, .int (saf N (cV u1))), (2, .int (cRef N S z)), (0, .ref (q 0)), (1, .int (nI (tn x)))]) hx hb d_A_scrub_62 rfl hl (by decide) rfl (fun ls hl => ?_)
          refine lv_iload_n hx hb d_A_scrub_63 rfl (lv_at hl 0 rfl) ?_
          refine lv_iconst (v := (-1)) hx hb d_A_scrub_64 (by decide) ?_
          refine lv_icmp_ne (tgt := 71) hx hb d_A_scrub_65 rfl (fun g65 => ?_) (fun g65 => ?_)
          · obtain ⟨hs1, hs2⟩ := saf_tn gN4 gN g65
            have hl : lv_has ls 5 [(3, .int (nI (tn (saf N (cV u1))))), (2, .int (cRef N S z)), (0, .ref (q 0)), (1, .int (nI (tn x)))] := by rw [← hs2]; exact hl
            refine lv_aload_n hx hb d_A_scrub_71 rfl (lv_at hl 2 rfl) ?_
            refine va_get (D := D) (ci := 3) (v := .ref (q 1)) (C := R_A) (T := T_A) (N := 11) hx hb hts (in_A) hown hK hP 0 rfl rfl 2 (by decide) (hts _ m_f_A_25) (fun _ h9 => h9) rfl d_A_scrub_72 ?_
            refine lv_iload_n hx hb d_A_scrub_75 rfl (lv_at hl 0 rfl) ?_
            refine lv_iload_n hx hb d_A_scrub_76 rfl (lv_at hl 3 rfl) ?_
            refine k_roi (va_runV (C := R_D) (As := [.int (nI (tn (saf N (cV u1)))), .int (nI (tn x))]) (rest := []) ⟨hx, hb, hml, hown, hts⟩ (c_Disks_diskOf l D cA (q 1) (q 2) (q 3) N S (cW u1) (cP u1) (by omega) (by omega) (by omega) (by omega) (tn (saf N (cV u1))) (tn x) (by omega) (by omega)) (k_cwV 2 hts m_code_D_diskOf m_ini_D m_l_A_61 m_inst_D_diskOf m_sel_D_diskOf h_D_diskOf rfl rfl ⟨Nat.le_of_ble_eq_true rfl, Nat.le_of_ble_eq_true rfl⟩) (k_pR hP hK [1, 2, 3] rfl 1 0 rfl rfl) rfl rfl hl.1 rfl (lv_room (Nat.le_of_ble_eq_true rfl)) d_A_scrub_77 ⟨Nat.zero_le _, Nat.zero_le _⟩) ?_
            have f2 : dk N (tn (saf N (cV u1))) (tn x) < N := dk_lt (by omega)
            refine lv_istore (lv' := [(4, .int (nI (dk N (tn (saf N (cV u1))) (tn x)))), (3, .int (nI (tn (saf N (cV u1))))), (2, .int (cRef N S z)), (0, .ref (q 0)), (1, .int (nI (tn x)))]) hx hb d_A_scrub_80 hl (by decide) rfl (fun ls hl => ?_)
            refine lv_aload_n hx hb d_A_scrub_82 rfl (lv_at hl 3 rfl) ?_
            refine lv_iload hx hb d_A_scrub_83 (lv_at hl 0 rfl) ?_
            refine lv_iload_n hx hb d_A_scrub_85 rfl (lv_at hl 4 rfl) ?_
            refine lv_aload_n hx hb d_A_scrub_86 rfl (lv_at hl 3 rfl) ?_
            refine va_get (D := D) (ci := 3) (v := .ref (q 4)) (C := R_A) (T := T_A) (N := 11) hx hb hts (in_A) hown hK hP 0 rfl rfl 4 (by decide) (hts _ m_f_A_41) (fun _ h9 => h9) rfl d_A_scrub_87 ?_
            refine lv_iload_n hx hb d_A_scrub_90 rfl (lv_at hl 1 rfl) ?_
            refine k_roi (va_runV (C := R_S) (As := [.int (nI (tn (saf N (cV u1))))]) (rest := [.int (nI (tn x)), .int (nI (dk N (tn (saf N (cV u1))) (tn x))), .ref (q 0)]) ⟨hx, hb, hml, hown, hts⟩ (c_Stripe_mendedWord l D cA (q 4) (q 5) N (cV u1) (by omega) (by omega) (tn (saf N (cV u1))) (by omega)) (k_cwV 1 hts m_code_S_mendedWord m_ini_S m_l_A_151 m_inst_S_mendedWord m_sel_S_mendedWord h_S_mendedWord rfl rfl ⟨Nat.le_of_ble_eq_true rfl, Nat.le_of_ble_eq_true rfl⟩) (k_pR hP hK [4, 5] rfl 4 2 rfl rfl) rfl rfl hl.1 rfl (lv_room (Nat.le_of_ble_eq_true rfl)) d_A_scrub_91 ⟨Nat.zero_le _, Nat.zero_le _⟩) ?_
            refine k_wri (va_runV (C := R_A) (As := [.int (nI (dk N (tn (saf N (cV u1))) (tn x))), .int (nI (tn x)), .int (mend N (cV u1) (tn (saf N (cV u1))))]) (rest := []) ⟨hx, hb, hml, hown, hts⟩ (c_DualParityArray_writeCell l D cA q N S u1 (by omega) (by omega) (by omega) (by omega) (dk N (tn (saf N (cV u1))) (tn x)) (tn x) (mend N (cV u1) (tn (saf N (cV u1)))) (by omega) (by omega)) (k_cwV 3 hts m_code_A_writeCell m_ini_A m_l_A_128 m_inst_A_writeCell m_sel_A_writeCell h_A_writeCell rfl rfl ⟨Nat.le_of_ble_eq_true rfl, Nat.le_of_ble_eq_true rfl⟩) (k_pW hP hK hD [0, 1, 2, 3, 4, 5, 6, 7] (by decide) rfl 0 3 rfl rfl) rfl rfl hl.1 rfl (lv_room (Nat.le_of_ble_eq_true rfl)) d_A_scrub_94 ⟨Nat.zero_le _, Nat.zero_le _⟩) hS hD [0, 1, 2, 3, 4, 5, 6, 7] rfl (fun r u H1 locs hp hk hP1 hS => ?_)
            subst hp
            obtain ⟨u3, hu3⟩ : ∃ w, w = (cWr S (dk N (tn (saf N (cV u1))) (tn x)) (tn x) (mend N (cV u1) (tn (saf N (cV u1)))) u1).2 := ⟨_, rfl⟩
            have hP : va_P D vwCl (wC cA q N S u3) H1 := by rw [hu3]; exact hP1
            have hD : va_D (k_A (wC cA q N S z)) (wC cA q N S u3) := k_D hD rfl
            generalize H1 = H at hP hS ⊢
            refine lv_if_ne (tgt := 103) hx hb d_A_scrub_97 rfl (fun g97 => ?_) (fun g97 => ?_)
            · have h97 := bi_nz.mp g97
              refine lv_iconst (v := 1) hx hb d_A_scrub_103 (by decide) ?_
              refine lv_iload hx hb d_A_scrub_104 (lv_at hl 0 rfl) ?_
              refine lv_iadd hx hb d_A_scrub_106 ?_
              refine k_top (nI (1 + (dk N (tn (saf N (cV u1))) (tn x)))) (nI_add 1 (dk N (tn (saf N (cV u1))) (tn x))) ?_
              have e4 : (cSc N S x z).2 = u3 := by subst hu3; subst hu1; first | ((try unfold cSc); (try unfold cSc1); (try unfold cSc2); (repeat (first | rw [if_pos g8] | rw [if_neg g8] | rw [if_pos h8] | rw [if_neg h8] | rw [if_pos g19] | rw [if_neg g19] | rw [if_pos g32] | rw [if_neg g32] | rw [if_pos h32] | rw [if_neg h32] | rw [if_pos g50] | rw [if_neg g50] | rw [if_pos h50] | rw [if_neg h50] | rw [if_pos g65] | rw [if_neg g65] | rw [if_pos g97] | rw [if_neg g97] | rw [if_pos h97] | rw [if_neg h97] | rw [if_neg (show ¬ true = false by decide)] | rw [if_pos (show false = false from rfl)] | dsimp only)); first | done | rfl) | rfl | (simp [cSc, cSc1, cSc2, g8, h8, g19, g32, h32, g50, h50, g65, g97, h97]; done)
              exact W.iret (v := nI (1 + (dk N (tn (saf N (cV u1))) (tn x)))) hx hb hr (fun t ht hW => ⟨⟨_, (), rfl, by subst hu3; subst hu1; first | ((try unfold cSc); (try unfold cSc1); (try unfold cSc2); (repeat (first | rw [if_pos g8] | rw [if_neg g8] | rw [if_pos h8] | rw [if_neg h8] | rw [if_pos g19] | rw [if_neg g19] | rw [if_pos g32] | rw [if_neg g32] | rw [if_pos h32] | rw [if_neg h32] | rw [if_pos g50] | rw [if_neg g50] | rw [if_pos h50] | rw [if_neg h50] | rw [if_pos g65] | rw [if_neg g65] | rw [if_pos g97] | rw [if_neg g97] | rw [if_pos h97] | rw [if_neg h97] | rw [if_neg (show ¬ true = false by decide)] | rw [if_pos (show false = false from rfl)] | dsimp only)); first | done | rfl) | rfl | (simp [cSc, cSc1, cSc2, g8, h8, g19, g32, h32, g50, h50, g65, g97, h97]; done), by show va_P D vwCl (wC cA q N S ((cSc N S x z).2)) t.heap; rw [ht, e4]; exact hP⟩, hS.F ht⟩) hS.2.2 d_A_scrub_107
            · have h97 := bi_z.mp g97
              refine lv_bipush (v := (-4)) hx hb d_A_scrub_100 (by decide) ?_
              have e5 : (cSc N S x z).2 = u3 := by subst hu3; subst hu1; first | ((try unfold cSc); (try unfold cSc1); (try unfold cSc2); (repeat (first | rw [if_pos g8] | rw [if_neg g8] | rw [if_pos h8] | rw [if_neg h8] | rw [if_pos g19] | rw [if_neg g19] | rw [if_pos g32] | rw [if_neg g32] | rw [if_pos h32] | rw [if_neg h32] | rw [if_pos g50] | rw [if_neg g50] | rw [if_pos h50] | rw [if_neg h50] | rw [if_pos g65] | rw [if_neg g65] | rw [if_pos g97] | rw [if_neg g97] | rw [if_pos h97] | rw [if_neg h97] | rw [if_neg (show ¬ true = false by decide)] | rw [if_pos (show false = false from rfl)] | dsimp only)); first | done | rfl) | rfl | (simp [cSc, cSc1, cSc2, g8, h8, g19, g32, h32, g50, h50, g65, g97, h97]; done)
              exact W.iret (v := (-4)) hx hb hr (fun t ht hW => ⟨⟨_, (), rfl, by subst hu3; subst hu1; first | ((try unfold cSc); (try unfold cSc1); (try unfold cSc2); (repeat (first | rw [if_pos g8] | rw [if_neg g8] | rw [if_pos h8] | rw [if_neg h8] | rw [if_pos g19] | rw [if_neg g19] | rw [if_pos g32] | rw [if_neg g32] | rw [if_pos h32] | rw [if_neg h32] | rw [if_pos g50] | rw [if_neg g50] | rw [if_pos h50] | rw [if_neg h50] | rw [if_pos g65] | rw [if_neg g65] | rw [if_pos g97] | rw [if_neg g97] | rw [if_pos h97] | rw [if_neg h97] | rw [if_neg (show ¬ true = false by decide)] | rw [if_pos (show false = false from rfl)] | dsimp only)); first | done | rfl) | rfl | (simp [cSc, cSc1, cSc2, g8, h8, g19, g32, h32, g50, h50, g65, g97, h97]; done), by show va_P D vwCl (wC cA q N S ((cSc N S x z).2)) t.heap; rw [ht, e5]; exact hP⟩, hS.F ht⟩) hS.2.2 d_A_scrub_102
          · refine lv_bipush (v := (-7)) hx hb d_A_scrub_68 (by decide) ?_
            have e6 : (cSc N S x z).2 = u1 := by subst hu1; first | ((try unfold cSc); (try unfold cSc1); (try unfold cSc2); (repeat (first | rw [if_pos g8] | rw [if_neg g8] | rw [if_pos h8] | rw [if_neg h8] | rw [if_pos g19] | rw [if_neg g19] | rw [if_pos g32] | rw [if_neg g32] | rw [if_pos h32] | rw [if_neg h32] | rw [if_pos g50] | rw [if_neg g50] | rw [if_pos h50] | rw [if_neg h50] | rw [if_pos g65] | rw [if_neg g65] | rw [if_neg (show ¬ true = false by decide)] | rw [if_pos (show false = false from rfl)] | dsimp only)); first | done | rfl) | rfl | (simp [cSc, cSc1, cSc2, g8, h8, g19, g32, h32, g50, h50, g65]; done)
            exact W.iret (v := (-7)) hx hb hr (fun t ht hW => ⟨⟨_, (), rfl, by subst hu1; first | ((try unfold cSc); (try unfold cSc1); (try unfold cSc2); (repeat (first | rw [if_pos g8] | rw [if_neg g8] | rw [if_pos h8] | rw [if_neg h8] | rw [if_pos g19] | rw [if_neg g19] | rw [if_pos g32] | rw [if_neg g32] | rw [if_pos h32] | rw [if_neg h32] | rw [if_pos g50] | rw [if_neg g50] | rw [if_pos h50] | rw [if_neg h50] | rw [if_pos g65] | rw [if_neg g65] | rw [if_neg (show ¬ true = false by decide)] | rw [if_pos (show false = false from rfl)] | dsimp only)); first | done | rfl) | rfl | (simp [cSc, cSc1, cSc2, g8, h8, g19, g32, h32, g50, h50, g65]; done), by show va_P D vwCl (wC cA q N S ((cSc N S x z).2)) t.heap; rw [ht, e6]; exact hP⟩, hS.F ht⟩) hS.2.2 d_A_scrub_70
        · have h50 := of_decide_eq_true (bi_nz.mp g50)
          refine lv_iconst (v := 0) hx hb d_A_scrub_53 (by decide) ?_
          have e7 : (cSc N S x z).2 = u1 := by subst hu1; first | ((try unfold cSc); (try unfold cSc1); (try unfold cSc2); (repeat (first | rw [if_pos g8] | rw [if_neg g8] | rw [if_pos h8] | rw [if_neg h8] | rw [if_pos g19] | rw [if_neg g19] | rw [if_pos g32] | rw [if_neg g32] | rw [if_pos h32] | rw [if_neg h32] | rw [if_pos g50] | rw [if_neg g50] | rw [if_pos h50] | rw [if_neg h50] | rw [if_neg (show ¬ true = false by decide)] | rw [if_pos (show false = false from rfl)] | dsimp only)); first | done | rfl) | rfl | (simp [cSc, cSc1, cSc2, g8, h8, g19, g32, h32, g50, h50]; done)
          exact W.iret (v := 0) hx hb hr (fun t ht hW => ⟨⟨_, (), rfl, by subst hu1; first | ((try unfold cSc); (try unfold cSc1); (try unfold cSc2); (repeat (first | rw [if_pos g8] | rw [if_neg g8] | rw [if_pos h8] | rw [if_neg h8] | rw [if_pos g19] | rw [if_neg g19] | rw [if_pos g32] | rw [if_neg g32] | rw [if_pos h32] | rw [if_neg h32] | rw [if_pos g50] | rw [if_neg g50] | rw [if_pos h50] | rw [if_neg h50] | rw [if_neg (show ¬ true = false by decide)] | rw [if_pos (show false = false from rfl)] | dsimp only)); first | done | rfl) | rfl | (simp [cSc, cSc1, cSc2, g8, h8, g19, g32, h32, g50, h50]; done), by show va_P D vwCl (wC cA q N S ((cSc N S x z).2)) t.heap; rw [ht, e7]; exact hP⟩, hS.F ht⟩) hS.2.2 d_A_scrub_54
      · have h32 := of_decide_eq_false (bi_z.mp g32)
        refine lv_bipush (v := (-6)) hx hb d_A_scrub_35 (by decide) ?_
        have e8 : (cSc N S x z).2 = z := by first | ((try unfold cSc); (try unfold cSc1); (try unfold cSc2); (repeat (first | rw [if_pos g8] | rw [if_neg g8] | rw [if_pos h8] | rw [if_neg h8] | rw [if_pos g19] | rw [if_neg g19] | rw [if_pos g32] | rw [if_neg g32] | rw [if_pos h32] | rw [if_neg h32] | rw [if_neg (show ¬ true = false by decide)] | rw [if_pos (show false = false from rfl)] | dsimp only)); first | done | rfl) | rfl | (simp [cSc, cSc1, cSc2, g8, h8, g19, g32, h32]; done)
        exact W.iret (v := (-6)) hx hb hr (fun t ht hW => ⟨⟨_, (), rfl, by first | ((try unfold cSc); (try unfold cSc1); (try unfold cSc2); (repeat (first | rw [if_pos g8] | rw [if_neg g8] | rw [if_pos h8] | rw [if_neg h8] | rw [if_pos g19] | rw [if_neg g19] | rw [if_pos g32] | rw [if_neg g32] | rw [if_pos h32] | rw [if_neg h32] | rw [if_neg (show ¬ true = false by decide)] | rw [if_pos (show false = false from rfl)] | dsimp only)); first | done | rfl) | rfl | (simp [cSc, cSc1, cSc2, g8, h8, g19, g32, h32]; done), by show va_P D vwCl (wC cA q N S ((cSc N S x z).2)) t.heap; rw [ht, e8]; exact hP⟩, hS.F ht⟩) hS.2.2 d_A_scrub_37
    · refine lv_iload_n hx hb d_A_scrub_22 rfl (lv_at hl 0 rfl) ?_
      have e9 : (cSc N S x z).2 = z := by first | ((try unfold cSc); (try unfold cSc1); (try unfold cSc2); (repeat (first | rw [if_pos g8] | rw [if_neg g8] | rw [if_pos h8] | rw [if_neg h8] | rw [if_pos g19] | rw [if_neg g19] | rw [if_neg (show ¬ true = false by decide)] | rw [if_pos (show false = false from rfl)] | dsimp only)); first | done | rfl) | rfl | (simp [cSc, cSc1, cSc2, g8, h8, g19]; done)
      exact W.iret (v := cRef N S z) hx hb hr (fun t ht hW => ⟨⟨_, (), rfl, by first | ((try unfold cSc); (try unfold cSc1); (try unfold cSc2); (repeat (first | rw [if_pos g8] | rw [if_neg g8] | rw [if_pos h8] | rw [if_neg h8] | rw [if_pos g19] | rw [if_neg g19] | rw [if_neg (show ¬ true = false by decide)] | rw [if_pos (show false = false from rfl)] | dsimp only)); first | done | rfl) | rfl | (simp [cSc, cSc1, cSc2, g8, h8, g19]; done), by show va_P D vwCl (wC cA q N S ((cSc N S x z).2)) t.heap; rw [ht, e9]; exact hP⟩, hS.F ht⟩) hS.2.2 d_A_scrub_23
  · have h8 := of_decide_eq_false (bi_z.mp g8)
    refine lv_iconst (v := (-1)) hx hb d_A_scrub_11 (by decide) ?_
    have e10 : (cSc N S x z).2 = z := by first | ((try unfold cSc); (try unfold cSc1); (try unfold cSc2); (repeat (first | rw [if_pos g8] | rw [if_neg g8] | rw [if_pos h8] | rw [if_neg h8] | rw [if_neg (show ¬ true = false by decide)] | rw [if_pos (show false = false from rfl)] | dsimp only)); first | done | rfl) | rfl | (simp [cSc, cSc1, cSc2, g8, h8]; done)
    exact W.iret (v := (-1)) hx hb hr (fun t ht hW => ⟨⟨_, (), rfl, by first | ((try unfold cSc); (try unfold cSc1); (try unfold cSc2); (repeat (first | rw [if_pos g8] | rw [if_neg g8] | rw [if_pos h8] | rw [if_neg h8] | rw [if_neg (show ¬ true = false by decide)] | rw [if_pos (show false = false from rfl)] | dsimp only)); first | done | rfl) | rfl | (simp [cSc, cSc1, cSc2, g8, h8]; done), by show va_P D vwCl (wC cA q N S ((cSc N S x z).2)) t.heap; rw [ht, e10]; exact hP⟩, hS.F ht⟩) hS.2.2 d_A_scrub_12
