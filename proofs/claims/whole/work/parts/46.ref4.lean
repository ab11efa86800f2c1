set_option maxHeartbeats 4000000 in
set_option maxRecDepth 100000 in
theorem c_Model_read (l : Launch) (D : va_G) (cA : ClassId) (q : Nat → Nat) (N S : Nat) (z : RS) (gN4 : 4 ≤ N) (gN : N ≤ 10) (gS1 : 1 ≤ S) (gS : S ≤ 16) (x : Int32) : Met l y_M_read w_M_read ({ frames := 4, cells := 0, slots := 0, locals := 96 }) (va_Pc [.ref (q 0), .int x] (k_Wc D [(cA, .int)] (wM cA q N S z))) (va_Ql (fun (r : Int64) (_ : Unit) => r = (rRd N S x z).1) (fun _ t => va_P D vwCl (wM cA q N S ((rRd N S x z).2)) t.heap) (k_A (wM cA q N S z))) 0 0 (k_A (wM cA q N S z)) := by
  refine Met.ofW (cc := b_M_read) (maxL := 4) (ret := (some .long)) (by decide) rfl ?_
  intro p e s m args below meth c s₁ B hml hv
  obtain ⟨rfl, hP, hK, hD0⟩ := hv
  have hx := B.exec
  have hb := B.bytes
  have hr := B.returns
  have hts0 := atoms_spec (ws := w_M_read) B.pre
  have hts : ∀ w ∈ lw_g, w.before _ s = true := fun w h => hts0 w (List.mem_cons_of_mem _ h)
  have hown : s.vm.findClass R_M = some m.cls := findClass_of_methodNamed B.named
  have hlocks := B.notSynchronized
  have hD := k_Dself hD0
  have hDD := hD
  have hS : va_S (k_A (wM cA q N S z)) s.heap s.heap [] := va_S.rf
  have hl := lv_entry ([.ref (q 0), .int x]) (n := 4) (Nat.le_of_ble_eq_true rfl)
  rw [lg_entry_eq]
  generalize (lg_sl ([.ref (q 0), .int x]) ++ List.replicate (4 - (lg_sl ([.ref (q 0), .int x])).length) Slot.unset).toArray = ls at hl ⊢
  have hl : lv_has ls 4 [(0, .ref (q 0)), (1, .int x)] := hl
  have hSN : S * (N - 2) ≤ 16 * 8 := Nat.mul_le_mul gS (by omega)
  refine lv_aload_n hx hb d_M_read_0 rfl (lv_at hl 0 rfl) ?_
  refine lv_iload_n hx hb d_M_read_1 rfl (lv_at hl 1 rfl) ?_
  refine k_roi (va_runV (C := R_M) (As := [.int x]) (rest := []) ⟨hx, hb, hml, hown, hts⟩ (c_Model_isBlock l D cA q N S z (by omega) (by omega) (by omega) (by omega) x) (k_cwV 1 hts m_code_M_isBlock m_ini_M m_l_M_96 m_inst_M_isBlock m_sel_M_isBlock h_M_isBlock rfl rfl ⟨Nat.le_of_ble_eq_true rfl, Nat.le_of_ble_eq_true rfl⟩) (k_pR hP hK [0, 1, 2, 3, 4] rfl 0 4 rfl rfl) rfl rfl hl.1 rfl (lv_room (Nat.le_of_ble_eq_true rfl)) d_M_read_2 ⟨Nat.zero_le _, Nat.zero_le _⟩) ?_
  refine lv_if_ne (tgt := 12) hx hb d_M_read_5 rfl (fun g5 => ?_) (fun g5 => ?_)
  · have h5 := of_decide_eq_true (bi_nz.mp g5)
    obtain ⟨hx1, hx2⟩ := tn_of (by omega) h5
    have hq1 : tn x % (N - 2) < N - 2 := Nat.mod_lt _ (by omega)
    have hq2 : tn x / (N - 2) < S := (Nat.div_lt_iff_lt_mul (by omega)).mpr hx1
    have hl : lv_has ls 4 [(0, .ref (q 0)), (1, .int (nI (tn x)))] := by rw [← hx2]; exact hl
    refine lv_aload_n hx hb d_M_read_12 rfl (lv_at hl 0 rfl) ?_
    refine va_get (D := D) (ci := 4) (v := .int (rDn z)) (C := R_M) (T := T_M) (N := 16) hx hb hts (in_M) hown hK hP 0 rfl rfl 3 (by decide) (hts _ m_f_M_73) (fun _ h9 => h9) rfl d_M_read_13 ?_
    refine lv_if_ne (tgt := 26) hx hb d_M_read_16 rfl (fun g16 => ?_) (fun g16 => ?_)
    · refine lv_aload_n hx hb d_M_read_26 rfl (lv_at hl 0 rfl) ?_
      refine va_get (D := D) (ci := 4) (v := .int (rDn z)) (C := R_M) (T := T_M) (N := 16) hx hb hts (in_M) hown hK hP 0 rfl rfl 3 (by decide) (hts _ m_f_M_73) (fun _ h9 => h9) rfl d_M_read_27 ?_
      refine lv_if_eq (tgt := 39) hx hb d_M_read_30 rfl (fun g30 => ?_) (fun g30 => ?_)
      · exact absurd g30 g16
      · have hrf : rRef N S z = -2 := by unfold rRef; rw [if_neg g30]
        refine lv_ldc2 (v := (-2)) hx hb hown (hts _ m_c_M_105) d_M_read_33 ?_
        refine lv_goto hx hb d_M_read_36 rfl ?_
        have e1 : (rRd N S x z).2 = z := by first | ((try unfold rRd); (repeat (first | rw [if_pos g5] | rw [if_neg g5] | rw [if_pos h5] | rw [if_neg h5] | rw [if_pos g16] | rw [if_neg g16] | rw [if_pos g30] | rw [if_neg g30] | rw [hrf] | rw [rRV_n2] | rw [rRA_n] | rw [if_pos (rfl : (0 : Int32) = 0)] | rw [if_neg (show ¬ (-2 : Int32) = 0 by decide)] | rw [if_neg (show ¬ (-3 : Int32) = 0 by decide)] | rw [if_neg (show ¬ true = false by decide)] | rw [if_pos (show false = false from rfl)] | dsimp only)); first | done | rfl) | rfl
        exact W.lret (v := (-2)) hx hb hr (fun t ht hW => ⟨⟨_, (), rfl, by first | ((try unfold rRd); (repeat (first | rw [if_pos g5] | rw [if_neg g5] | rw [if_pos h5] | rw [if_neg h5] | rw [if_pos g16] | rw [if_neg g16] | rw [if_pos g30] | rw [if_neg g30] | rw [hrf] | rw [rRV_n2] | rw [rRA_n] | rw [if_pos (rfl : (0 : Int32) = 0)] | rw [if_neg (show ¬ (-2 : Int32) = 0 by decide)] | rw [if_neg (show ¬ (-3 : Int32) = 0 by decide)] | rw [if_neg (show ¬ true = false by decide)] | rw [if_pos (show false = false from rfl)] | dsimp only)); first | done | rfl) | rfl, by show va_P D vwCl (wM cA q N S ((rRd N S x z).2)) t.heap; rw [ht, e1]; exact hP⟩, hS.F ht⟩) hS.2.2 d_M_read_42
    · refine lv_aload_n hx hb d_M_read_19 rfl (lv_at hl 0 rfl) ?_
      refine k_roi (va_runV (C := R_M) (As := []) (rest := []) ⟨hx, hb, hml, hown, hts⟩ (c_Model_broken l D cA q N S z (by omega) (by omega) (by omega) (by omega)) (k_cwV 0 hts m_code_M_broken m_ini_M m_l_M_102 m_inst_M_broken m_sel_M_broken h_M_broken rfl rfl ⟨Nat.le_of_ble_eq_true rfl, Nat.le_of_ble_eq_true rfl⟩) (k_pR hP hK [0, 1, 2, 3, 4] rfl 0 4 rfl rfl) rfl rfl hl.1 rfl (lv_room (Nat.le_of_ble_eq_true rfl)) d_M_read_20 ⟨Nat.zero_le _, Nat.zero_le _⟩) ?_
      refine lv_if_eq (tgt := 43) hx hb d_M_read_23 rfl (fun g23 => ?_) (fun g23 => ?_)
      · have h23 := of_decide_eq_false (bi_z.mp g23)
        have hrf : rRef N S z = 0 := by unfold rRef; rw [if_pos g16, if_neg h23]
        refine lv_iload_n hx hb d_M_read_43 rfl (lv_at hl 1 rfl) ?_
        refine lv_aload_n hx hb d_M_read_44 rfl (lv_at hl 0 rfl) ?_
        refine va_get (D := D) (ci := 4) (v := .int (nI N)) (C := R_M) (T := T_M) (N := 16) hx hb hts (in_M) hown hK hP 0 rfl rfl 0 (by decide) (hts _ m_f_M_26) (fun _ h9 => h9) rfl d_M_read_45 ?_
        refine lv_iconst (v := 2) hx hb d_M_read_48 (by decide) ?_
        refine lv_isub hx hb d_M_read_49 ?_
        refine k_top (nI (N - 2)) (pk_sub (a := N) (b := 2) (by omega)) ?_
        refine lv_idiv hx hb d_M_read_50 (nI_ne0 (by omega) (by omega)) ?_
        refine k_top (nI ((tn x) / (N - 2))) (pk_div (a := tn x) (d := N - 2) (by omega) (by omega) (by omega)) ?_
        refine lv_istore_n (lv' := [(2, .int (nI ((tn x) / (N - 2)))), (0, .ref (q 0)), (1, .int (nI (tn x)))]) hx hb d_M_read_51 rfl hl (by decide) rfl (fun ls hl => ?_)
        refine lv_iload_n hx hb d_M_read_52 rfl (lv_at hl 2 rfl) ?_
        refine lv_aload_n hx hb d_M_read_53 rfl (lv_at hl 1 rfl) ?_
        refine va_get (D := D) (ci := 4) (v := .int (nI N)) (C := R_M) (T := T_M) (N := 16) hx hb hts (in_M) hown hK hP 0 rfl rfl 0 (by decide) (hts _ m_f_M_26) (fun _ h9 => h9) rfl d_M_read_54 ?_
        refine lv_iconst (v := 2) hx hb d_M_read_57 (by decide) ?_
        refine lv_isub hx hb d_M_read_58 ?_
        refine k_top (nI (N - 2)) (pk_sub (a := N) (b := 2) (by omega)) ?_
        refine lv_irem hx hb d_M_read_59 (nI_ne0 (by omega) (by omega)) ?_
        refine k_top (nI ((tn x) % (N - 2))) (pk_rem (a := tn x) (d := N - 2) (by omega) (by omega) (by omega)) ?_
        refine lv_istore_n (lv' := [(3, .int (nI ((tn x) % (N - 2)))), (2, .int (nI ((tn x) / (N - 2)))), (0, .ref (q 0)), (1, .int (nI (tn x)))]) hx hb d_M_read_60 rfl hl (by decide) rfl (fun ls hl => ?_)
        refine lv_aload_n hx hb d_M_read_61 rfl (lv_at hl 2 rfl) ?_
        refine lv_dup hx hb d_M_read_62 rfl ?_
        refine va_get (D := D) (ci := 4) (v := .int (rRc z)) (C := R_M) (T := T_M) (N := 16) hx hb hts (in_M) hown hK hP 0 rfl rfl 7 (by decide) (hts _ m_f_M_109) (fun _ h9 => h9) rfl d_M_read_63 ?_
        refine lv_aload_n hx hb d_M_read_66 rfl (lv_at hl 2 rfl) ?_
        refine lv_iload_n hx hb d_M_read_67 rfl (lv_at hl 0 rfl) ?_
        refine lv_iload_n hx hb d_M_read_68 rfl (lv_at hl 1 rfl) ?_
        refine k_roi (va_runV (C := R_M) (As := [.int (nI ((tn x) % (N - 2))), .int (nI ((tn x) / (N - 2)))]) (rest := [.int (rRc z), .ref (q 0)]) ⟨hx, hb, hml, hown, hts⟩ (c_Model_has l D cA q N S z (by omega) (by omega) (by omega) (by omega) ((tn x) % (N - 2)) ((tn x) / (N - 2)) (by omega) (by omega)) (k_cwV 2 hts m_code_M_has m_ini_M m_l_M_45 m_inst_M_has m_sel_M_has h_M_has rfl rfl ⟨Nat.le_of_ble_eq_true rfl, Nat.le_of_ble_eq_true rfl⟩) (k_pR hP hK [0, 1, 2, 3, 4] rfl 0 4 rfl rfl) rfl rfl hl.1 rfl (lv_room (Nat.le_of_ble_eq_true rfl)) d_M_read_69 ⟨Nat.zero_le _, Nat.zero_le _⟩) ?_
        refine lv_if_eq (tgt := 79) hx hb d_M_read_72 rfl (fun g72 => ?_) (fun g72 => ?_)
        · have h72 := of_decide_eq_false (bi_z.mp g72)
          refine lv_aload_n hx hb d_M_read_79 rfl (lv_at hl 2 rfl) ?_
          refine lv_iload_n hx hb d_M_read_80 rfl (lv_at hl 1 rfl) ?_
          refine k_roi (va_runV (C := R_M) (As := [.int (nI ((tn x) / (N - 2)))]) (rest := [.int (rRc z), .ref (q 0)]) ⟨hx, hb, hml, hown, hts⟩ (c_Model_availableIn l D cA q N S z (by omega) (by omega) (by omega) (by omega) (nI ((tn x) / (N - 2)))) (k_cwV 1 hts m_code_M_availableIn m_ini_M m_l_M_112 m_inst_M_availableIn m_sel_M_availableIn h_M_availableIn rfl rfl ⟨Nat.le_of_ble_eq_true rfl, Nat.le_of_ble_eq_true rfl⟩) (k_pR hP hK [0, 1, 2, 3, 4] rfl 0 4 rfl rfl) rfl rfl hl.1 rfl (lv_room (Nat.le_of_ble_eq_true rfl)) d_M_read_81 ⟨Nat.zero_le _, Nat.zero_le _⟩) ?_
          have f2 : cntA (rP z) (nI ((tn x) / (N - 2))) N ≤ N := cntA_le _ _ _
          refine lv_iadd hx hb d_M_read_84 ?_
          refine va_put (D := D) (ci := 4) (v := .int ((rRc z) + (nI (cntA (rP z) (nI ((tn x) / (N - 2))) N)))) (ty := .int) (C := R_M) (T := T_M) (N := 16) hx hb hts (in_M) ty_M tyok_M nm_M hown hK hP hD hS 0 rfl rfl 7 (by decide) (hts _ m_f_M_109) (fun _ h9 => h9) rfl (by decide +kernel) rfl rfl (Nat.le_of_ble_eq_true rfl) d_M_read_85 (fun H locs hP hD hS => ?_)
          have hP : va_P D vwCl (wM cA q N S (tRc z ((rRc z) + (nI (cntA (rP z) (nI ((tn x) / (N - 2))) N))))) H := hP
          have hD : va_D (k_A (wM cA q N S z)) (wM cA q N S (tRc z ((rRc z) + (nI (cntA (rP z) (nI ((tn x) / (N - 2))) N))))) := wM_D hDD
          refine lv_aload_n hx hb d_M_read_88 rfl (lv_at hl 2 rfl) ?_
          refine lv_iload_n hx hb d_M_read_89 rfl (lv_at hl 1 rfl) ?_
          refine k_wrv (va_runV (C := R_M) (As := [.int (nI ((tn x) / (N - 2)))]) (rest := []) ⟨hx, hb, hml, hown, hts⟩ (c_Model_values l D cA q N S (tRc z ((rRc z) + (nI (cntA (rP z) (nI ((tn x) / (N - 2))) N)))) (by omega) (by omega) (by omega) (by omega) ((tn x) / (N - 2)) (by omega)) (k_cwV 1 hts m_code_M_values m_ini_M m_l_M_116 m_inst_M_values m_sel_M_values h_M_values rfl rfl ⟨Nat.le_of_ble_eq_true rfl, Nat.le_of_ble_eq_true rfl⟩) (k_pW hP hK hD [0, 1, 2, 3, 4] (by decide) rfl 0 4 rfl rfl) rfl rfl hl.1 rfl (lv_room (Nat.le_of_ble_eq_true rfl)) d_M_read_90 ⟨Nat.zero_le _, Nat.zero_le _⟩) hS hD [0, 1, 2, 3, 4] rfl (fun u H1 locs _ hk hP1 hS => ?_)
          have hP : va_P D vwCl (wM cA q N S (tV (tRc z ((rRc z) + (nI (cntA (rP z) (nI ((tn x) / (N - 2))) N)))) (rVal N ((tn x) / (N - 2)) (rW (tRc z ((rRc z) + (nI (cntA (rP z) (nI ((tn x) / (N - 2))) N))))) (rP (tRc z ((rRc z) + (nI (cntA (rP z) (nI ((tn x) / (N - 2))) N))))) (rV (tRc z ((rRc z) + (nI (cntA (rP z) (nI ((tn x) / (N - 2))) N)))))))) H1 := hP1
          have hD : va_D (k_A (wM cA q N S z)) (wM cA q N S (tV (tRc z ((rRc z) + (nI (cntA (rP z) (nI ((tn x) / (N - 2))) N)))) (rVal N ((tn x) / (N - 2)) (rW (tRc z ((rRc z) + (nI (cntA (rP z) (nI ((tn x) / (N - 2))) N))))) (rP (tRc z ((rRc z) + (nI (cntA (rP z) (nI ((tn x) / (N - 2))) N))))) (rV (tRc z ((rRc z) + (nI (cntA (rP z) (nI ((tn x) / (N - 2))) N)))))))) := wM_D hDD
          generalize H1 = H at hP hS ⊢
          have hP : va_P D vwCl (wM cA q N S (tV (tRc z ((rRc z) + (nI (cntA (rP z) (nI ((tn x) / (N - 2))) N)))) (rVal N ((tn x) / (N - 2)) (rW z) (rP z) (rV z)))) H := by simp only [rP_tRc, rV_tRc, rW_tRc] at hP; exact hP
          have hD : va_D (k_A (wM cA q N S z)) (wM cA q N S (tV (tRc z ((rRc z) + (nI (cntA (rP z) (nI ((tn x) / (N - 2))) N)))) (rVal N ((tn x) / (N - 2)) (rW z) (rP z) (rV z)))) := wM_D hDD
          refine lv_aload_n hx hb d_M_read_93 rfl (lv_at hl 2 rfl) ?_
          refine va_get (D := D) (ci := 4) (v := .ref (q 3)) (C := R_M) (T := T_M) (N := 16) hx hb hts (in_M) hown hK hP 0 rfl rfl 11 (by decide) (hts _ m_f_M_16) (fun _ h9 => h9) rfl d_M_read_94 ?_
          refine lv_iload_n hx hb d_M_read_97 rfl (lv_at hl 0 rfl) ?_
          refine va_iald (n := 10) (f := rV (tV (tRc z ((rRc z) + (nI (cntA (rP z) (nI ((tn x) / (N - 2))) N)))) (rVal N ((tn x) / (N - 2)) (rW z) (rP z) (rV z)))) hx hb hK hP 3 0 rfl rfl (vp_in_nI (by omega) (by omega)) d_M_read_98 ?_
          refine k_top ((rV (tV (tRc z ((rRc z) + (nI (cntA (rP z) (nI ((tn x) / (N - 2))) N)))) (rVal N ((tn x) / (N - 2)) (rW z) (rP z) (rV z)))) ((tn x) % (N - 2))) (by rw [show (nI ((tn x) % (N - 2)) : Int32).toNatClampNeg = (tn x) % (N - 2) from nI_clamp (n := (tn x) % (N - 2)) (by omega)]) ?_
          refine k_top ((rVal N ((tn x) / (N - 2)) (rW z) (rP z) (rV z)) ((tn x) % (N - 2))) (by repeat (first | rw [rV_tV])) ?_
          refine lv_i2l (v := ((rVal N ((tn x) / (N - 2)) (rW z) (rP z) (rV z)) ((tn x) % (N - 2))).toInt64) hx hb d_M_read_99 rfl ?_
          refine lv_ldc2 (v := 4294967295) hx hb hown (hts _ m_c_M_120) d_M_read_100 ?_
          refine lv_land hx hb d_M_read_103 ?_
          have e3 : (rRd N S x z).2 = tV (tRc z ((rRc z) + (nI (cntA (rP z) (nI ((tn x) / (N - 2))) N)))) (rVal N ((tn x) / (N - 2)) (rW z) (rP z) (rV z)) := by first | ((try unfold rRd); (repeat (first | rw [if_pos g5] | rw [if_neg g5] | rw [if_pos h5] | rw [if_neg h5] | rw [if_pos g16] | rw [if_neg g16] | rw [if_pos g23] | rw [if_neg g23] | rw [if_pos h23] | rw [if_neg h23] | rw [hrf] | rw [if_pos g72] | rw [if_neg g72] | rw [if_pos h72] | rw [if_neg h72] | rw [rRV_n2] | rw [rRA_n] | rw [if_pos (rfl : (0 : Int32) = 0)] | rw [if_neg (show ¬ (-2 : Int32) = 0 by decide)] | rw [if_neg (show ¬ (-3 : Int32) = 0 by decide)] | rw [if_neg (show ¬ true = false by decide)] | rw [if_pos (show false = false from rfl)] | dsimp only)); first | done | rfl) | rfl
          exact W.lret (v := (((rVal N ((tn x) / (N - 2)) (rW z) (rP z) (rV z)) ((tn x) % (N - 2))).toInt64) &&& 4294967295) hx hb hr (fun t ht hW => ⟨⟨_, (), rfl, by first | ((try unfold rRd); (repeat (first | rw [if_pos g5] | rw [if_neg g5] | rw [if_pos h5] | rw [if_neg h5] | rw [if_pos g16] | rw [if_neg g16] | rw [if_pos g23] | rw [if_neg g23] | rw [if_pos h23] | rw [if_neg h23] | rw [hrf] | rw [if_pos g72] | rw [if_neg g72] | rw [if_pos h72] | rw [if_neg h72] | rw [rRV_n2] | rw [rRA_n] | rw [if_pos (rfl : (0 : Int32) = 0)] | rw [if_neg (show ¬ (-2 : Int32) = 0 by decide)] | rw [if_neg (show ¬ (-3 : Int32) = 0 by decide)] | rw [if_neg (show ¬ true = false by decide)] | rw [if_pos (show false = false from rfl)] | dsimp only)); first | done | rfl) | rfl, by show va_P D vwCl (wM cA q N S ((rRd N S x z).2)) t.heap; rw [ht, e3]; exact hP⟩, hS.F ht⟩) hS.2.2 d_M_read_104
        · have h72 := of_decide_eq_true (bi_nz.mp g72)
          refine lv_iconst (v := 1) hx hb d_M_read_75 (by decide) ?_
          refine lv_goto hx hb d_M_read_76 rfl ?_
          refine lv_iadd hx hb d_M_read_84 ?_
          refine va_put (D := D) (ci := 4) (v := .int ((rRc z) + 1)) (ty := .int) (C := R_M) (T := T_M) (N := 16) hx hb hts (in_M) ty_M tyok_M nm_M hown hK hP hD hS 0 rfl rfl 7 (by decide) (hts _ m_f_M_109) (fun _ h9 => h9) rfl (by decide +kernel) rfl rfl (Nat.le_of_ble_eq_true rfl) d_M_read_85 (fun H locs hP hD hS => ?_)
          have hP : va_P D vwCl (wM cA q N S (tRc z ((rRc z) + 1))) H := hP
          have hD : va_D (k_A (wM cA q N S z)) (wM cA q N S (tRc z ((rRc z) + 1))) := wM_D hDD
          refine lv_aload_n hx hb d_M_read_88 rfl (lv_at hl 2 rfl) ?_
          refine lv_iload_n hx hb d_M_read_89 rfl (lv_at hl 1 rfl) ?_
          refine k_wrv (va_runV (C := R_M) (As := [.int (nI ((tn x) / (N - 2)))]) (rest := []) ⟨hx, hb, hml, hown, hts⟩ (c_Model_values l D cA q N S (tRc z ((rRc z) + 1)) (by omega) (by omega) (by omega) (by omega) ((tn x) / (N - 2)) (by omega)) (k_cwV 1 hts m_code_M_values m_ini_M m_l_M_116 m_inst_M_values m_sel_M_values h_M_values rfl rfl ⟨Nat.le_of_ble_eq_true rfl, Nat.le_of_ble_eq_true rfl⟩) (k_pW hP hK hD [0, 1, 2, 3, 4] (by decide) rfl 0 4 rfl rfl) rfl rfl hl.1 rfl (lv_room (Nat.le_of_ble_eq_true rfl)) d_M_read_90 ⟨Nat.zero_le _, Nat.zero_le _⟩) hS hD [0, 1, 2, 3, 4] rfl (fun u H1 locs _ hk hP1 hS => ?_)
          have hP : va_P D vwCl (wM cA q N S (tV (tRc z ((rRc z) + 1)) (rVal N ((tn x) / (N - 2)) (rW (tRc z ((rRc z) + 1))) (rP (tRc z ((rRc z) + 1))) (rV (tRc z ((rRc z) + 1)))))) H1 := hP1
          have hD : va_D (k_A (wM cA q N S z)) (wM cA q N S (tV (tRc z ((rRc z) + 1)) (rVal N ((tn x) / (N - 2)) (rW (tRc z ((rRc z) + 1))) (rP (tRc z ((rRc z) + 1))) (rV (tRc z ((rRc z) + 1)))))) := wM_D hDD
          generalize H1 = H at hP hS ⊢
          have hP : va_P D vwCl (wM cA q N S (tV (tRc z ((rRc z) + 1)) (rVal N ((tn x) / (N - 2)) (rW z) (rP z) (rV z)))) H := by simp only [rP_tRc, rV_tRc, rW_tRc] at hP; exact hP
          have hD : va_D (k_A (wM cA q N S z)) (wM cA q N S (tV (tRc z ((rRc z) + 1)) (rVal N ((tn x) / (N - 2)) (rW z) (rP z) (rV z)))) := wM_D hDD
          refine lv_aload_n hx hb d_M_read_93 rfl (lv_at hl 2 rfl) ?_
          refine va_get (D := D) (ci := 4) (v := .ref (q 3)) (C := R_M) (T := T_M) (N := 16) hx hb hts (in_M) hown hK hP 0 rfl rfl 11 (by decide) (hts _ m_f_M_16) (fun _ h9 => h9) rfl d_M_read_94 ?_
          refine lv_iload_n hx hb d_M_read_97 rfl (lv_at hl 0 rfl) ?_
          refine va_iald (n := 10) (f := rV (tV (tRc z ((rRc z) + 1)) (rVal N ((tn x) / (N - 2)) (rW z) (rP z) (rV z)))) hx hb hK hP 3 0 rfl rfl (vp_in_nI (by omega) (by omega)) d_M_read_98 ?_
          refine k_top ((rV (tV (tRc z ((rRc z) + 1)) (rVal N ((tn x) / (N - 2)) (rW z) (rP z) (rV z)))) ((tn x) % (N - 2))) (by rw [show (nI ((tn x) % (N - 2)) : Int32).toNatClampNeg = (tn x) % (N - 2) from nI_clamp (n := (tn x) % (N - 2)) (by omega)]) ?_
          refine k_top ((rVal N ((tn x) / (N - 2)) (rW z) (rP z) (rV z)) ((tn x) % (N - 2))) (by repeat (first | rw [rV_tV])) ?_
          refine lv_i2l (v := ((rVal N ((tn x) / (N - 2)) (rW z) (rP z) (rV z)) ((tn x) % (N - 2))).toInt64) hx hb d_M_read_99 rfl ?_
          refine lv_ldc2 (v := 4294967295) hx hb hown (hts _ m_c_M_120) d_M_read_100 ?_
          refine lv_land hx hb d_M_read_103 ?_
          have e4 : (rRd N S x z).2 = tV (tRc z ((rRc z) + 1)) (rVal N ((tn x) / (N - 2)) (rW z) (rP z) (rV z)) := by first | ((try unfold rRd); (repeat (first | rw [if_pos g5] | rw [if_neg g5] | rw [if_pos h5] | rw [if_neg h5] | rw [if_pos g16] | rw [if_neg g16] | rw [if_pos g23] | rw [if_neg g23] | rw [if_pos h23] | rw [if_neg h23] | rw [hrf] | rw [if_pos g72] | rw [if_neg g72] | rw [if_pos h72] | rw [if_neg h72] | rw [rRV_n2] | rw [rRA_n] | rw [if_pos (rfl : (0 : Int32) = 0)] | rw [if_neg (show ¬ (-2 : Int32) = 0 by decide)] | rw [if_neg (show ¬ (-3 : Int32) = 0 by decide)] | rw [if_neg (show ¬ true = false by decide)] | rw [if_pos (show false = false from rfl)] | dsimp only)); first | done | rfl) | rfl
          exact W.lret (v := (((rVal N ((tn x) / (N - 2)) (rW z) (rP z) (rV z)) ((tn x) % (N - 2))).toInt64) &&& 4294967295) hx hb hr (fun t ht hW => ⟨⟨_, (), rfl, by first | ((try unfold rRd); (repeat (first | rw [if_pos g5] | rw [if_neg g5] | rw [if_pos h5] | rw [if_neg h5] | rw [if_pos g16] | rw [if_neg g16] | rw [if_pos g23] | rw [if_neg g23] | rw [if_pos h23] | rw [if_neg h23] | rw [hrf] | rw [if_pos g72] | rw [if_neg g72] | rw [if_pos h72] | rw [if_neg h72] | rw [rRV_n2] | rw [rRA_n] | rw [if_pos (rfl : (0 : Int32) = 0)] | rw [if_neg (show ¬ (-2 : Int32) = 0 by decide)] | rw [if_neg (show ¬ (-3 : Int32) = 0 by decide)] | rw [if_neg (show ¬ true = false by decide)] | rw [if_pos (show false = false from rfl)] | dsimp only)); first | done | rfl) | rfl, by show va_P D vwCl (wM cA q N S ((rRd N S x z).2)) t.heap; rw [ht, e4]; exact hP⟩, hS.F ht⟩) hS.2.2 d_M_read_104
      · have h23 := of_decide_eq_true (bi_nz.mp g23)
        refine lv_aload_n hx hb d_M_read_26 rfl (lv_at hl 0 rfl) ?_
        refine va_get (D := D) (ci := 4) (v := .int (rDn z)) (C := R_M) (T := T_M) (N := 16) hx hb hts (in_M) hown hK hP 0 rfl rfl 3 (by decide) (hts _ m_f_M_73) (fun _ h9 => h9) rfl d_M_read_27 ?_
        refine lv_if_eq (tgt := 39) hx hb d_M_read_30 rfl (fun g30 => ?_) (fun g30 => ?_)
        · have hrf : rRef N S z = -3 := by unfold rRef; rw [if_pos g30, if_pos h23]
          refine lv_ldc2 (v := (-3)) hx hb hown (hts _ m_c_M_107) d_M_read_39 ?_
          have e5 : (rRd N S x z).2 = z := by first | ((try unfold rRd); (repeat (first | rw [if_pos g5] | rw [if_neg g5] | rw [if_pos h5] | rw [if_neg h5] | rw [if_pos g16] | rw [if_neg g16] | rw [if_pos g23] | rw [if_neg g23] | rw [if_pos h23] | rw [if_neg h23] | rw [if_pos g30] | rw [if_neg g30] | rw [hrf] | rw [rRV_n2] | rw [rRA_n] | rw [if_pos (rfl : (0 : Int32) = 0)] | rw [if_neg (show ¬ (-2 : Int32) = 0 by decide)] | rw [if_neg (show ¬ (-3 : Int32) = 0 by decide)] | rw [if_neg (show ¬ true = false by decide)] | rw [if_pos (show false = false from rfl)] | dsimp only)); first | done | rfl) | rfl
          exact W.lret (v := (-3)) hx hb hr (fun t ht hW => ⟨⟨_, (), rfl, by first | ((try unfold rRd); (repeat (first | rw [if_pos g5] | rw [if_neg g5] | rw [if_pos h5] | rw [if_neg h5] | rw [if_pos g16] | rw [if_neg g16] | rw [if_pos g23] | rw [if_neg g23] | rw [if_pos h23] | rw [if_neg h23] | rw [if_pos g30] | rw [if_neg g30] | rw [hrf] | rw [rRV_n2] | rw [rRA_n] | rw [if_pos (rfl : (0 : Int32) = 0)] | rw [if_neg (show ¬ (-2 : Int32) = 0 by decide)] | rw [if_neg (show ¬ (-3 : Int32) = 0 by decide)] | rw [if_neg (show ¬ true = false by decide)] | rw [if_pos (show false = false from rfl)] | dsimp only)); first | done | rfl) | rfl, by show va_P D vwCl (wM cA q N S ((rRd N S x z).2)) t.heap; rw [ht, e5]; exact hP⟩, hS.F ht⟩) hS.2.2 d_M_read_42
        · exact absurd g16 g30
  · have h5 := of_decide_eq_false (bi_z.mp g5)
    refine lv_ldc2 (v := (-1)) hx hb hown (hts _ m_c_M_100) d_M_read_8 ?_
    have e6 : (rRd N S x z).2 = z := by first | ((try unfold rRd); (repeat (first | rw [if_pos g5] | rw [if_neg g5] | rw [if_pos h5] | rw [if_neg h5] | rw [rRV_n2] | rw [rRA_n] | rw [if_pos (rfl : (0 : Int32) = 0)] | rw [if_neg (show ¬ (-2 : Int32) = 0 by decide)] | rw [if_neg (show ¬ (-3 : Int32) = 0 by decide)] | rw [if_neg (show ¬ true = false by decide)] | rw [if_pos (show false = false from rfl)] | dsimp only)); first | done | rfl) | rfl
    exact W.lret (v := (-1)) hx hb hr (fun t ht hW => ⟨⟨_, (), rfl, by first | ((try unfold rRd); (repeat (first | rw [if_pos g5] | rw [if_neg g5] | rw [if_pos h5] | rw [if_neg h5] | rw [rRV_n2] | rw [rRA_n] | rw [if_pos (rfl : (0 : Int32) = 0)] | rw [if_neg (show ¬ (-2 : Int32) = 0 by decide)] | rw [if_neg (show ¬ (-3 : Int32) = 0 by decide)] | rw [if_neg (show ¬ true = false by decide)] | rw [if_pos (show false = false from rfl)] | dsimp only)); first | done | rfl) | rfl, by show va_P D vwCl (wM cA q N S ((rRd N S x z).2)) t.heap; rw [ht, e6]; exact hP⟩, hS.F ht⟩) hS.2.2 d_M_read_11
set_option maxHeartbeats 4000000 in
set_option maxRecDepth 100000 in
theorem c_Model_fail (l : Launch) (D : va_G) (cA : ClassId) (q : Nat → Nat) (N S : Nat) (z : RS) (gN4 : 4 ≤ N) (gN : N ≤ 10) (gS1 : 1 ≤ S) (gS : S ≤ 16) (x : Int32) : Met l y_M_fail w_M_fail ({ frames := 0, cells := 0, slots := 0, locals := 0 }) (va_Pc [.ref (q 0), .int x] (k_Wc D [(cA, .int)] (wM cA q N S z))) (va_Qi (fun (r : Int32) (_ : Unit) => r = bi ((rFail N x z).1)) (fun _ t => va_P D vwCl (wM cA q N S ((rFail N x z).2)) t.heap) (k_A (wM cA q N S z))) 0 0 (k_A (wM cA q N S z)) := by
  refine Met.ofW (cc := b_M_fail) (maxL := 2) (ret := (some .boolean)) (by decide) rfl ?_
  intro p e s m args below meth c s₁ B hml hv
  obtain ⟨rfl, hP, hK, hD0⟩ := hv
  have hx := B.exec
  have hb := B.bytes
  have hr := B.returns
  have hts0 := atoms_spec (ws := w_M_fail) B.pre
  have hts : ∀ w ∈ lw_g, w.before _ s = true := fun w h => hts0 w (List.mem_cons_of_mem _ h)
  have hown : s.vm.findClass R_M = some m.cls := findClass_of_methodNamed B.named
  have hlocks := B.notSynchronized
  have hD := k_Dself hD0
  have hDD := hD
  have hS : va_S (k_A (wM cA q N S z)) s.heap s.heap [] := va_S.rf
  have hl := lv_entry ([.ref (q 0), .int x]) (n := 2) (Nat.le_of_ble_eq_true rfl)
  rw [lg_entry_eq]
  generalize (lg_sl ([.ref (q 0), .int x]) ++ List.replicate (2 - (lg_sl ([.ref (q 0), .int x])).length) Slot.unset).toArray = ls at hl ⊢
  have hl : lv_has ls 2 [(0, .ref (q 0)), (1, .int x)] := hl
  refine lv_iload_n hx hb d_M_fail_0 rfl (lv_at hl 1 rfl) ?_
  refine lv_if_lt (tgt := 21) hx hb d_M_fail_1 rfl (fun g1 => ?_) (fun g1 => ?_)
  · have h1 := Int32.not_le.mpr g1
    have hin : ¬ (¬ x < 0 ∧ ¬ nI N ≤ x) := fun w => w.1 g1
    refine lv_iconst (v := 0) hx hb d_M_fail_21 (by decide) ?_
    have e1 : (rFail N x z).2 = z := by first | ((try unfold rFail); (repeat (first | rw [if_pos g1] | rw [if_neg g1] | rw [if_pos h1] | rw [if_neg h1] | rw [if_pos hin] | rw [if_neg hin] | rw [rRV_n2] | rw [rRA_n] | rw [if_pos (rfl : (0 : Int32) = 0)] | rw [if_neg (show ¬ (-2 : Int32) = 0 by decide)] | rw [if_neg (show ¬ (-3 : Int32) = 0 by decide)] | rw [if_neg (show ¬ true = false by decide)] | rw [if_pos (show false = false from rfl)] | dsimp only)); first | done | rfl) | rfl
    exact W.zret (v := 0) (ty := .boolean) hx hb hr (rfl) (fun t ht hW => ⟨⟨_, (), rfl, by first | ((try unfold rFail); (repeat (first | rw [if_pos g1] | rw [if_neg g1] | rw [if_pos h1] | rw [if_neg h1] | rw [if_pos hin] | rw [if_neg hin] | rw [rRV_n2] | rw [rRA_n] | rw [if_pos (rfl : (0 : Int32) = 0)] | rw [if_neg (show ¬ (-2 : Int32) = 0 by decide)] | rw [if_neg (show ¬ (-3 : Int32) = 0 by decide)] | rw [if_neg (show ¬ true = false by decide)] | rw [if_pos (show false = false from rfl)] | dsimp only)); first | done | rfl) | rfl, by show va_P D vwCl (wM cA q N S ((rFail N x z).2)) t.heap; rw [ht, e1]; exact hP⟩, hS.F ht⟩) hS.2.2 d_M_fail_22
  · have h1 := Int32.not_lt.mp g1
    refine lv_iload_n hx hb d_M_fail_4 rfl (lv_at hl 1 rfl) ?_
    refine lv_aload_n hx hb d_M_fail_5 rfl (lv_at hl 0 rfl) ?_
    refine va_get (D := D) (ci := 4) (v := .int (nI N)) (C := R_M) (T := T_M) (N := 16) hx hb hts (in_M) hown hK hP 0 rfl rfl 0 (by decide) (hts _ m_f_M_26) (fun _ h9 => h9) rfl d_M_fail_6 ?_
    refine lv_icmp_ge (tgt := 21) hx hb d_M_fail_9 rfl (fun g9 => ?_) (fun g9 => ?_)
    · have h9 := Int32.not_lt.mpr g9
      have hin : ¬ (¬ x < 0 ∧ ¬ nI N ≤ x) := fun w => w.2 g9
      refine lv_iconst (v := 0) hx hb d_M_fail_21 (by decide) ?_
      have e2 : (rFail N x z).2 = z := by first | ((try unfold rFail); (repeat (first | rw [if_pos g1] | rw [if_neg g1] | rw [if_pos h1] | rw [if_neg h1] | rw [if_pos g9] | rw [if_neg g9] | rw [if_pos h9] | rw [if_neg h9] | rw [if_pos hin] | rw [if_neg hin] | rw [rRV_n2] | rw [rRA_n] | rw [if_pos (rfl : (0 : Int32) = 0)] | rw [if_neg (show ¬ (-2 : Int32) = 0 by decide)] | rw [if_neg (show ¬ (-3 : Int32) = 0 by decide)] | rw [if_neg (show ¬ true = false by decide)] | rw [if_pos (show false = false from rfl)] | dsimp only)); first | done | rfl) | rfl
      exact W.zret (v := 0) (ty := .boolean) hx hb hr (rfl) (fun t ht hW => ⟨⟨_, (), rfl, by first | ((try unfold rFail); (repeat (first | rw [if_pos g1] | rw [if_neg g1] | rw [if_pos h1] | rw [if_neg h1] | rw [if_pos g9] | rw [if_neg g9] | rw [if_pos h9] | rw [if_neg h9] | rw [if_pos hin] | rw [if_neg hin] | rw [rRV_n2] | rw [rRA_n] | rw [if_pos (rfl : (0 : Int32) = 0)] | rw [if_neg (show ¬ (-2 : Int32) = 0 by decide)] | rw [if_neg (show ¬ (-3 : Int32) = 0 by decide)] | rw [if_neg (show ¬ true = false by decide)] | rw [if_pos (show false = false from rfl)] | dsimp only)); first | done | rfl) | rfl, by show va_P D vwCl (wM cA q N S ((rFail N x z).2)) t.heap; rw [ht, e2]; exact hP⟩, hS.F ht⟩) hS.2.2 d_M_fail_22
    · have h9 := Int32.not_le.mp g9
      have hin : ¬ x < 0 ∧ ¬ nI N ≤ x := ⟨g1, g9⟩
      obtain ⟨hx1, hx2⟩ := tn_of (by omega) hin
      have hl : lv_has ls 2 [(0, .ref (q 0)), (1, .int (nI (tn x)))] := by rw [← hx2]; exact hl
      refine lv_aload_n hx hb d_M_fail_12 rfl (lv_at hl 0 rfl) ?_
      refine va_get (D := D) (ci := 4) (v := .ref (q 2)) (C := R_M) (T := T_M) (N := 16) hx hb hts (in_M) hown hK hP 0 rfl rfl 10 (by decide) (hts _ m_f_M_13) (fun _ h9 => h9) rfl d_M_fail_13 ?_
      refine lv_iload_n hx hb d_M_fail_16 rfl (lv_at hl 1 rfl) ?_
      refine va_iald (n := 10) (f := rP z) hx hb hK hP 2 0 rfl rfl (vp_in_nI (by omega) (by omega)) d_M_fail_17 ?_
      refine k_top ((rP z) (tn x)) (by rw [show (nI (tn x) : Int32).toNatClampNeg = tn x from nI_clamp (n := tn x) (by omega)]) ?_
      refine lv_if_ge (tgt := 23) hx hb d_M_fail_18 rfl (fun g18 => ?_) (fun g18 => ?_)
      · have h18 := Int32.not_lt.mpr g18
        refine lv_aload_n hx hb d_M_fail_23 rfl (lv_at hl 0 rfl) ?_
        refine va_get (D := D) (ci := 4) (v := .ref (q 2)) (C := R_M) (T := T_M) (N := 16) hx hb hts (in_M) hown hK hP 0 rfl rfl 10 (by decide) (hts _ m_f_M_13) (fun _ h9 => h9) rfl d_M_fail_24 ?_
        refine lv_iload_n hx hb d_M_fail_27 rfl (lv_at hl 1 rfl) ?_
        refine lv_iconst (v := (-1)) hx hb d_M_fail_28 (by decide) ?_
        refine va_iast (n := 10) (f := rP z) hx hb hK hP hD hS 2 0 rfl rfl (vp_in_nI (by omega) (by omega)) d_M_fail_29 (fun H locs hP hD hS => ?_)
        rw [show (nI (tn x) : Int32).toNatClampNeg = tn x from nI_clamp (n := tn x) (by omega)] at hP hD
        have hP : va_P D vwCl (wM cA q N S (tP z (upd (rP z) (tn x) (-1)))) H := wM_tP hP
        have hD : va_D (k_A (wM cA q N S z)) (wM cA q N S (tP z (upd (rP z) (tn x) (-1)))) := wM_D hDD
        refine lv_iconst (v := 1) hx hb d_M_fail_30 (by decide) ?_
        have e3 : (rFail N x z).2 = tP z (upd (rP z) (tn x) (-1)) := by first | ((try unfold rFail); (repeat (first | rw [if_pos g1] | rw [if_neg g1] | rw [if_pos h1] | rw [if_neg h1] | rw [if_pos g9] | rw [if_neg g9] | rw [if_pos h9] | rw [if_neg h9] | rw [if_pos hin] | rw [if_neg hin] | rw [if_pos g18] | rw [if_neg g18] | rw [if_pos h18] | rw [if_neg h18] | rw [rRV_n2] | rw [rRA_n] | rw [if_pos (rfl : (0 : Int32) = 0)] | rw [if_neg (show ¬ (-2 : Int32) = 0 by decide)] | rw [if_neg (show ¬ (-3 : Int32) = 0 by decide)] | rw [if_neg (show ¬ true = false by decide)] | rw [if_pos (show false = false from rfl)] | dsimp only)); first | done | rfl) | rfl
        exact W.zret (v := 1) (ty := .boolean) hx hb hr (rfl) (fun t ht hW => ⟨⟨_, (), rfl, by first | ((try unfold rFail); (repeat (first | rw [if_pos g1] | rw [if_neg g1] | rw [if_pos h1] | rw [if_neg h1] | rw [if_pos g9] | rw [if_neg g9] | rw [if_pos h9] | rw [if_neg h9] | rw [if_pos hin] | rw [if_neg hin] | rw [if_pos g18] | rw [if_neg g18] | rw [if_pos h18] | rw [if_neg h18] | rw [rRV_n2] | rw [rRA_n] | rw [if_pos (rfl : (0 : Int32) = 0)] | rw [if_neg (show ¬ (-2 : Int32) = 0 by decide)] | rw [if_neg (show ¬ (-3 : Int32) = 0 by decide)] | rw [if_neg (show ¬ true = false by decide)] | rw [if_pos (show false = false from rfl)] | dsimp only)); first | done | rfl) | rfl, by show va_P D vwCl (wM cA q N S ((rFail N x z).2)) t.heap; rw [ht, e3]; exact hP⟩, hS.F ht⟩) hS.2.2 d_M_fail_31
      · have h18 := Int32.not_le.mp g18
        refine lv_iconst (v := 0) hx hb d_M_fail_21 (by decide) ?_
        have e4 : (rFail N x z).2 = z := by first | ((try unfold rFail); (repeat (first | rw [if_pos g1] | rw [if_neg g1] | rw [if_pos h1] | rw [if_neg h1] | rw [if_pos g9] | rw [if_neg g9] | rw [if_pos h9] | rw [if_neg h9] | rw [if_pos hin] | rw [if_neg hin] | rw [if_pos g18] | rw [if_neg g18] | rw [if_pos h18] | rw [if_neg h18] | rw [rRV_n2] | rw [rRA_n] | rw [if_pos (rfl : (0 : Int32) = 0)] | rw [if_neg (show ¬ (-2 : Int32) = 0 by decide)] | rw [if_neg (show ¬ (-3 : Int32) = 0 by decide)] | rw [if_neg (show ¬ true = false by decide)] | rw [if_pos (show false = false from rfl)] | dsimp only)); first | done | rfl) | rfl
        exact W.zret (v := 0) (ty := .boolean) hx hb hr (rfl) (fun t ht hW => ⟨⟨_, (), rfl, by first | ((try unfold rFail); (repeat (first | rw [if_pos g1] | rw [if_neg g1] | rw [if_pos h1] | rw [if_neg h1] | rw [if_pos g9] | rw [if_neg g9] | rw [if_pos h9] | rw [if_neg h9] | rw [if_pos hin] | rw [if_neg hin] | rw [if_pos g18] | rw [if_neg g18] | rw [if_pos h18] | rw [if_neg h18] | rw [rRV_n2] | rw [rRA_n] | rw [if_pos (rfl : (0 : Int32) = 0)] | rw [if_neg (show ¬ (-2 : Int32) = 0 by decide)] | rw [if_neg (show ¬ (-3 : Int32) = 0 by decide)] | rw [if_neg (show ¬ true = false by decide)] | rw [if_pos (show false = false from rfl)] | dsimp only)); first | done | rfl) | rfl, by show va_P D vwCl (wM cA q N S ((rFail N x z).2)) t.heap; rw [ht, e4]; exact hP⟩, hS.F ht⟩) hS.2.2 d_M_fail_22
set_option maxHeartbeats 4000000 in
set_option maxRecDepth 100000 in
theorem c_Model_replace (l : Launch) (D : va_G) (cA : ClassId) (q : Nat → Nat) (N S : Nat) (z : RS) (gN4 : 4 ≤ N) (gN : N ≤ 10) (gS1 : 1 ≤ S) (gS : S ≤ 16) (x : Int32) : Met l y_M_replace w_M_replace ({ frames := 0, cells := 0, slots := 0, locals := 0 }) (va_Pc [.ref (q 0), .int x] (k_Wc D [(cA, .int)] (wM cA q N S z))) (va_Qi (fun (r : Int32) (_ : Unit) => r = bi ((rRepl N x z).1)) (fun _ t => va_P D vwCl (wM cA q N S ((rRepl N x z).2)) t.heap) (k_A (wM cA q N S z))) 0 0 (k_A (wM cA q N S z)) := by
  refine Met.ofW (cc := b_M_replace) (maxL := 2) (ret := (some .boolean)) (by decide) rfl ?_
  intro p e s m args below meth c s₁ B hml hv
  obtain ⟨rfl, hP, hK, hD0⟩ := hv
  have hx := B.exec
  have hb := B.bytes
  have hr := B.returns
  have hts0 := atoms_spec (ws := w_M_replace) B.pre
  have hts : ∀ w ∈ lw_g, w.before _ s = true := fun w h => hts0 w (List.mem_cons_of_mem _ h)
  have hown : s.vm.findClass R_M = some m.cls := findClass_of_methodNamed B.named
  have hlocks := B.notSynchronized
  have hD := k_Dself hD0
  have hDD := hD
  have hS : va_S (k_A (wM cA q N S z)) s.heap s.heap [] := va_S.rf
  have hl := lv_entry ([.ref (q 0), .int x]) (n := 2) (Nat.le_of_ble_eq_true rfl)
  rw [lg_entry_eq]
  generalize (lg_sl ([.ref (q 0), .int x]) ++ List.replicate (2 - (lg_sl ([.ref (q 0), .int x])).length) Slot.unset).toArray = ls at hl ⊢
  have hl : lv_has ls 2 [(0, .ref (q 0)), (1, .int x)] := hl
  refine lv_iload_n hx hb d_M_replace_0 rfl (lv_at hl 1 rfl) ?_
  refine lv_if_lt (tgt := 28) hx hb d_M_replace_1 rfl (fun g1 => ?_) (fun g1 => ?_)
  · have h1 := Int32.not_le.mpr g1
    have hin : ¬ (¬ x < 0 ∧ ¬ nI N ≤ x) := fun w => w.1 g1
    refine lv_iconst (v := 0) hx hb d_M_replace_28 (by decide) ?_
    have e1 : (rRepl N x z).2 = z := by first | ((try unfold rRepl); (repeat (first | rw [if_pos g1] | rw [if_neg g1] | rw [if_pos h1] | rw [if_neg h1] | rw [if_pos hin] | rw [if_neg hin] | rw [rRV_n2] | rw [rRA_n] | rw [if_pos (rfl : (0 : Int32) = 0)] | rw [if_neg (show ¬ (-2 : Int32) = 0 by decide)] | rw [if_neg (show ¬ (-3 : Int32) = 0 by decide)] | rw [if_neg (show ¬ true = false by decide)] | rw [if_pos (show false = false from rfl)] | dsimp only)); first | done | rfl) | rfl
    exact W.zret (v := 0) (ty := .boolean) hx hb hr (rfl) (fun t ht hW => ⟨⟨_, (), rfl, by first | ((try unfold rRepl); (repeat (first | rw [if_pos g1] | rw [if_neg g1] | rw [if_pos h1] | rw [if_neg h1] | rw [if_pos hin] | rw [if_neg hin] | rw [rRV_n2] | rw [rRA_n] | rw [if_pos (rfl : (0 : Int32) = 0)] | rw [if_neg (show ¬ (-2 : Int32) = 0 by decide)] | rw [if_neg (show ¬ (-3 : Int32) = 0 by decide)] | rw [if_neg (show ¬ true = false by decide)] | rw [if_pos (show false = false from rfl)] | dsimp only)); first | done | rfl) | rfl, by show va_P D vwCl (wM cA q N S ((rRepl N x z).2)) t.heap; rw [ht, e1]; exact hP⟩, hS.F ht⟩) hS.2.2 d_M_replace_29
  · have h1 := Int32.not_lt.mp g1
    refine lv_iload_n hx hb d_M_replace_4 rfl (lv_at hl 1 rfl) ?_
    refine lv_aload_n hx hb d_M_replace_5 rfl (lv_at hl 0 rfl) ?_
    refine va_get (D := D) (ci := 4) (v := .int (nI N)) (C := R_M) (T := T_M) (N := 16) hx hb hts (in_M) hown hK hP 0 rfl rfl 0 (by decide) (hts _ m_f_M_26) (fun _ h9 => h9) rfl d_M_replace_6 ?_
    refine lv_icmp_ge (tgt := 28) hx hb d_M_replace_9 rfl (fun g9 => ?_) (fun g9 => ?_)
    · have h9 := Int32.not_lt.mpr g9
      have hin : ¬ (¬ x < 0 ∧ ¬ nI N ≤ x) := fun w => w.2 g9
      refine lv_iconst (v := 0) hx hb d_M_replace_28 (by decide) ?_
      have e2 : (rRepl N x z).2 = z := by first | ((try unfold rRepl); (repeat (first | rw [if_pos g1] | rw [if_neg g1] | rw [if_pos h1] | rw [if_neg h1] | rw [if_pos g9] | rw [if_neg g9] | rw [if_pos h9] | rw [if_neg h9] | rw [if_pos hin] | rw [if_neg hin] | rw [rRV_n2] | rw [rRA_n] | rw [if_pos (rfl : (0 : Int32) = 0)] | rw [if_neg (show ¬ (-2 : Int32) = 0 by decide)] | rw [if_neg (show ¬ (-3 : Int32) = 0 by decide)] | rw [if_neg (show ¬ true = false by decide)] | rw [if_pos (show false = false from rfl)] | dsimp only)); first | done | rfl) | rfl
      exact W.zret (v := 0) (ty := .boolean) hx hb hr (rfl) (fun t ht hW => ⟨⟨_, (), rfl, by first | ((try unfold rRepl); (repeat (first | rw [if_pos g1] | rw [if_neg g1] | rw [if_pos h1] | rw [if_neg h1] | rw [if_pos g9] | rw [if_neg g9] | rw [if_pos h9] | rw [if_neg h9] | rw [if_pos hin] | rw [if_neg hin] | rw [rRV_n2] | rw [rRA_n] | rw [if_pos (rfl : (0 : Int32) = 0)] | rw [if_neg (show ¬ (-2 : Int32) = 0 by decide)] | rw [if_neg (show ¬ (-3 : Int32) = 0 by decide)] | rw [if_neg (show ¬ true = false by decide)] | rw [if_pos (show false = false from rfl)] | dsimp only)); first | done | rfl) | rfl, by show va_P D vwCl (wM cA q N S ((rRepl N x z).2)) t.heap; rw [ht, e2]; exact hP⟩, hS.F ht⟩) hS.2.2 d_M_replace_29
    · have h9 := Int32.not_le.mp g9
      have hin : ¬ x < 0 ∧ ¬ nI N ≤ x := ⟨g1, g9⟩
      obtain ⟨hx1, hx2⟩ := tn_of (by omega) hin
      have hl : lv_has ls 2 [(0, .ref (q 0)), (1, .int (nI (tn x)))] := by rw [← hx2]; exact hl
      refine lv_aload_n hx hb d_M_replace_12 rfl (lv_at hl 0 rfl) ?_
      refine va_get (D := D) (ci := 4) (v := .ref (q 2)) (C := R_M) (T := T_M) (N := 16) hx hb hts (in_M) hown hK hP 0 rfl rfl 10 (by decide) (hts _ m_f_M_13) (fun _ h9 => h9) rfl d_M_replace_13 ?_
      refine lv_iload_n hx hb d_M_replace_16 rfl (lv_at hl 1 rfl) ?_
      refine va_iald (n := 10) (f := rP z) hx hb hK hP 2 0 rfl rfl (vp_in_nI (by omega) (by omega)) d_M_replace_17 ?_
      refine k_top ((rP z) (tn x)) (by rw [show (nI (tn x) : Int32).toNatClampNeg = tn x from nI_clamp (n := tn x) (by omega)]) ?_
      refine lv_if_ge (tgt := 28) hx hb d_M_replace_18 rfl (fun g18 => ?_) (fun g18 => ?_)
      · have h18 := Int32.not_lt.mpr g18
        refine lv_iconst (v := 0) hx hb d_M_replace_28 (by decide) ?_
        have e3 : (rRepl N x z).2 = z := by first | ((try unfold rRepl); (repeat (first | rw [if_pos g1] | rw [if_neg g1] | rw [if_pos h1] | rw [if_neg h1] | rw [if_pos g9] | rw [if_neg g9] | rw [if_pos h9] | rw [if_neg h9] | rw [if_pos hin] | rw [if_neg hin] | rw [if_pos g18] | rw [if_neg g18] | rw [if_pos h18] | rw [if_neg h18] | rw [rRV_n2] | rw [rRA_n] | rw [if_pos (rfl : (0 : Int32) = 0)] | rw [if_neg (show ¬ (-2 : Int32) = 0 by decide)] | rw [if_neg (show ¬ (-3 : Int32) = 0 by decide)] | rw [if_neg (show ¬ true = false by decide)] | rw [if_pos (show false = false from rfl)] | dsimp only)); first | done | rfl) | rfl
        exact W.zret (v := 0) (ty := .boolean) hx hb hr (rfl) (fun t ht hW => ⟨⟨_, (), rfl, by first | ((try unfold rRepl); (repeat (first | rw [if_pos g1] | rw [if_neg g1] | rw [if_pos h1] | rw [if_neg h1] | rw [if_pos g9] | rw [if_neg g9] | rw [if_pos h9] | rw [if_neg h9] | rw [if_pos hin] | rw [if_neg hin] | rw [if_pos g18] | rw [if_neg g18] | rw [if_pos h18] | rw [if_neg h18] | rw [rRV_n2] | rw [rRA_n] | rw [if_pos (rfl : (0 : Int32) = 0)] | rw [if_neg (show ¬ (-2 : Int32) = 0 by decide)] | rw [if_neg (show ¬ (-3 : Int32) = 0 by decide)] | rw [if_neg (show ¬ true = false by decide)] | rw [if_pos (show false = false from rfl)] | dsimp only)); first | done | rfl) | rfl, by show va_P D vwCl (wM cA q N S ((rRepl N x z).2)) t.heap; rw [ht, e3]; exact hP⟩, hS.F ht⟩) hS.2.2 d_M_replace_29
      · have h18 := Int32.not_le.mp g18
        refine lv_aload_n hx hb d_M_replace_21 rfl (lv_at hl 0 rfl) ?_
        refine va_get (D := D) (ci := 4) (v := .int (rLe z)) (C := R_M) (T := T_M) (N := 16) hx hb hts (in_M) hown hK hP 0 rfl rfl 2 (by decide) (hts _ m_f_M_32) (fun _ h9 => h9) rfl d_M_replace_22 ?_
        refine lv_if_ne (tgt := 30) hx hb d_M_replace_25 rfl (fun g25 => ?_) (fun g25 => ?_)
        · refine lv_aload_n hx hb d_M_replace_30 rfl (lv_at hl 0 rfl) ?_
          refine va_get (D := D) (ci := 4) (v := .ref (q 2)) (C := R_M) (T := T_M) (N := 16) hx hb hts (in_M) hown hK hP 0 rfl rfl 10 (by decide) (hts _ m_f_M_13) (fun _ h9 => h9) rfl d_M_replace_31 ?_
          refine lv_iload_n hx hb d_M_replace_34 rfl (lv_at hl 1 rfl) ?_
          refine lv_iconst (v := 0) hx hb d_M_replace_35 (by decide) ?_
          refine va_iast (n := 10) (f := rP z) hx hb hK hP hD hS 2 0 rfl rfl (vp_in_nI (by omega) (by omega)) d_M_replace_36 (fun H locs hP hD hS => ?_)
          rw [show (nI (tn x) : Int32).toNatClampNeg = tn x from nI_clamp (n := tn x) (by omega)] at hP hD
          have hP : va_P D vwCl (wM cA q N S (tP z (upd (rP z) (tn x) 0))) H := wM_tP hP
          have hD : va_D (k_A (wM cA q N S z)) (wM cA q N S (tP z (upd (rP z) (tn x) 0))) := wM_D hDD
          refine lv_aload_n hx hb d_M_replace_37 rfl (lv_at hl 0 rfl) ?_
          refine lv_dup hx hb d_M_replace_38 rfl ?_
          refine va_get (D := D) (ci := 4) (v := .int (rLe (tP z (upd (rP z) (tn x) 0)))) (C := R_M) (T := T_M) (N := 16) hx hb hts (in_M) hown hK hP 0 rfl rfl 2 (by decide) (hts _ m_f_M_32) (fun _ h9 => h9) rfl d_M_replace_39 ?_
          refine k_top (rLe z) (by repeat (first | rw [rLe_tP])) ?_
          refine lv_iconst (v := 1) hx hb d_M_replace_42 (by decide) ?_
          refine lv_isub hx hb d_M_replace_43 ?_
          refine va_put (D := D) (ci := 4) (v := .int ((rLe z) - 1)) (ty := .int) (C := R_M) (T := T_M) (N := 16) hx hb hts (in_M) ty_M tyok_M nm_M hown hK hP hD hS 0 rfl rfl 2 (by decide) (hts _ m_f_M_32) (fun _ h9 => h9) rfl (by decide +kernel) rfl rfl (Nat.le_of_ble_eq_true rfl) d_M_replace_44 (fun H locs hP hD hS => ?_)
          have hP : va_P D vwCl (wM cA q N S (tLe (tP z (upd (rP z) (tn x) 0)) ((rLe z) - 1))) H := hP
          have hD : va_D (k_A (wM cA q N S z)) (wM cA q N S (tLe (tP z (upd (rP z) (tn x) 0)) ((rLe z) - 1))) := wM_D hDD
          refine lv_iconst (v := 1) hx hb d_M_replace_47 (by decide) ?_
          have e4 : (rRepl N x z).2 = tLe (tP z (upd (rP z) (tn x) 0)) ((rLe z) - 1) := by first | ((try unfold rRepl); (repeat (first | rw [if_pos g1] | rw [if_neg g1] | rw [if_pos h1] | rw [if_neg h1] | rw [if_pos g9] | rw [if_neg g9] | rw [if_pos h9] | rw [if_neg h9] | rw [if_pos hin] | rw [if_neg hin] | rw [if_pos g18] | rw [if_neg g18] | rw [if_pos h18] | rw [if_neg h18] | rw [if_pos g25] | rw [if_neg g25] | rw [rRV_n2] | rw [rRA_n] | rw [if_pos (rfl : (0 : Int32) = 0)] | rw [if_neg (show ¬ (-2 : Int32) = 0 by decide)] | rw [if_neg (show ¬ (-3 : Int32) = 0 by decide)] | rw [if_neg (show ¬ true = false by decide)] | rw [if_pos (show false = false from rfl)] | dsimp only)); first | done | rfl) | rfl
          exact W.zret (v := 1) (ty := .boolean) hx hb hr (rfl) (fun t ht hW => ⟨⟨_, (), rfl, by first | ((try unfold rRepl); (repeat (first | rw [if_pos g1] | rw [if_neg g1] | rw [if_pos h1] | rw [if_neg h1] | rw [if_pos g9] | rw [if_neg g9] | rw [if_pos h9] | rw [if_neg h9] | rw [if_pos hin] | rw [if_neg hin] | rw [if_pos g18] | rw [if_neg g18] | rw [if_pos h18] | rw [if_neg h18] | rw [if_pos g25] | rw [if_neg g25] | rw [rRV_n2] | rw [rRA_n] | rw [if_pos (rfl : (0 : Int32) = 0)] | rw [if_neg (show ¬ (-2 : Int32) = 0 by decide)] | rw [if_neg (show ¬ (-3 : Int32) = 0 by decide)] | rw [if_neg (show ¬ true = false by decide)] | rw [if_pos (show false = false from rfl)] | dsimp only)); first | done | rfl) | rfl, by show va_P D vwCl (wM cA q N S ((rRepl N x z).2)) t.heap; rw [ht, e4]; exact hP⟩, hS.F ht⟩) hS.2.2 d_M_replace_48
        · refine lv_iconst (v := 0) hx hb d_M_replace_28 (by decide) ?_
          have e5 : (rRepl N x z).2 = z := by first | ((try unfold rRepl); (repeat (first | rw [if_pos g1] | rw [if_neg g1] | rw [if_pos h1] | rw [if_neg h1] | rw [if_pos g9] | rw [if_neg g9] | rw [if_pos h9] | rw [if_neg h9] | rw [if_pos hin] | rw [if_neg hin] | rw [if_pos g18] | rw [if_neg g18] | rw [if_pos h18] | rw [if_neg h18] | rw [if_pos g25] | rw [if_neg g25] | rw [rRV_n2] | rw [rRA_n] | rw [if_pos (rfl : (0 : Int32) = 0)] | rw [if_neg (show ¬ (-2 : Int32) = 0 by decide)] | rw [if_neg (show ¬ (-3 : Int32) = 0 by decide)] | rw [if_neg (show ¬ true = false by decide)] | rw [if_pos (show false = false from rfl)] | dsimp only)); first | done | rfl) | rfl
          exact W.zret (v := 0) (ty := .boolean) hx hb hr (rfl) (fun t ht hW => ⟨⟨_, (), rfl, by first | ((try unfold rRepl); (repeat (first | rw [if_pos g1] | rw [if_neg g1] | rw [if_pos h1] | rw [if_neg h1] | rw [if_pos g9] | rw [if_neg g9] | rw [if_pos h9] | rw [if_neg h9] | rw [if_pos hin] | rw [if_neg hin] | rw [if_pos g18] | rw [if_neg g18] | rw [if_pos h18] | rw [if_neg h18] | rw [if_pos g25] | rw [if_neg g25] | rw [rRV_n2] | rw [rRA_n] | rw [if_pos (rfl : (0 : Int32) = 0)] | rw [if_neg (show ¬ (-2 : Int32) = 0 by decide)] | rw [if_neg (show ¬ (-3 : Int32) = 0 by decide)] | rw [if_neg (show ¬ true = false by decide)] | rw [if_pos (show false = false from rfl)] | dsimp only)); first | done | rfl) | rfl, by show va_P D vwCl (wM cA q N S ((rRepl N x z).2)) t.heap; rw [ht, e5]; exact hP⟩, hS.F ht⟩) hS.2.2 d_M_replace_29
