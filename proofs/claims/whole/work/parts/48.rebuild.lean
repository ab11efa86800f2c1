set_option maxHeartbeats 4000000 in
set_option maxRecDepth 100000 in
theorem c_Model_rebuild (l : Launch) (D : va_G) (cA : ClassId) (q : Nat → Nat) (N S : Nat) (z : RS) (gN4 : 4 ≤ N) (gN : N ≤ 10) (gS1 : 1 ≤ S) (gS : S ≤ 16) (hRP : RPos N S (rP z)) : Met l y_M_rebuild w_M_rebuild ({ frames := 4, cells := 0, slots := 0, locals := 96 }) (va_Pc [.ref (q 0)] (k_Wc D [(cA, .int)] (wM cA q N S z))) (va_Qi (fun (r : Int32) (_ : Unit) => r = (rRb N S z).1) (fun _ t => va_P D vwCl (wM cA q N S ((rRb N S z).2)) t.heap) (k_A (wM cA q N S z))) 0 0 (k_A (wM cA q N S z)) := by
  refine Met.ofW (cc := b_M_rebuild) (maxL := 4) (ret := (some .int)) (by decide) rfl ?_
  intro p e s m args below meth c s₁ B hml hv
  obtain ⟨rfl, hP, hK, hD0⟩ := hv
  have hx := B.exec
  have hb := B.bytes
  have hr := B.returns
  have hts0 := atoms_spec (ws := w_M_rebuild) B.pre
  have hts : ∀ w ∈ lw_g, w.before _ s = true := fun w h => hts0 w (List.mem_cons_of_mem _ h)
  have hown : s.vm.findClass R_M = some m.cls := findClass_of_methodNamed B.named
  have hlocks := B.notSynchronized
  have hD := k_Dself hD0
  have hDD := hD
  have hS : va_S (k_A (wM cA q N S z)) s.heap s.heap [] := va_S.rf
  have hl := lv_entry ([.ref (q 0)]) (n := 4) (Nat.le_of_ble_eq_true rfl)
  rw [lg_entry_eq]
  generalize (lg_sl ([.ref (q 0)]) ++ List.replicate (4 - (lg_sl ([.ref (q 0)])).length) Slot.unset).toArray = ls at hl ⊢
  have hl : lv_has ls 4 [(0, .ref (q 0))] := hl
  refine lv_aload_n hx hb d_M_rebuild_0 rfl (lv_at hl 0 rfl) ?_
  refine va_get (D := D) (ci := 4) (v := .int (rDn z)) (C := R_M) (T := T_M) (N := 16) hx hb hts (in_M) hown hK hP 0 rfl rfl 3 (by decide) (hts _ m_f_M_73) (fun _ h9 => h9) rfl d_M_rebuild_1 ?_
  refine lv_if_ne (tgt := 14) hx hb d_M_rebuild_4 rfl (fun g4 => ?_) (fun g4 => ?_)
  · refine lv_aload_n hx hb d_M_rebuild_14 rfl (lv_at hl 0 rfl) ?_
    refine va_get (D := D) (ci := 4) (v := .int (rDn z)) (C := R_M) (T := T_M) (N := 16) hx hb hts (in_M) hown hK hP 0 rfl rfl 3 (by decide) (hts _ m_f_M_73) (fun _ h9 => h9) rfl d_M_rebuild_15 ?_
    refine lv_if_eq (tgt := 26) hx hb d_M_rebuild_18 rfl (fun g18 => ?_) (fun g18 => ?_)
    · exact absurd g18 g4
    · have hrf : rRef N S z = -2 := by unfold rRef; rw [if_neg g18]
      refine lv_bipush (v := (-2)) hx hb d_M_rebuild_21 (by decide) ?_
      refine lv_goto hx hb d_M_rebuild_23 rfl ?_
      have e1 : (rRb N S z).2 = z := by first | ((try unfold rRb); (try unfold rRb1); (try unfold rRb2); (try unfold rPut); (repeat (first | rw [if_pos g4] | rw [if_neg g4] | rw [if_pos g18] | rw [if_neg g18] | rw [hrf] | rw [rWc_tW] | rw [rRV_n2] | rw [rRA_n] | rw [if_pos (rfl : (0 : Int32) = 0)] | rw [if_neg (show ¬ (-2 : Int32) = 0 by decide)] | rw [if_neg (show ¬ (-3 : Int32) = 0 by decide)] | rw [if_neg (show ¬ true = false by decide)] | rw [if_pos (show false = false from rfl)] | dsimp only)); first | done | rfl) | rfl
      exact W.iret (v := (-2)) hx hb hr (fun t ht hW => ⟨⟨_, (), rfl, by first | ((try unfold rRb); (try unfold rRb1); (try unfold rRb2); (try unfold rPut); (repeat (first | rw [if_pos g4] | rw [if_neg g4] | rw [if_pos g18] | rw [if_neg g18] | rw [hrf] | rw [rWc_tW] | rw [rRV_n2] | rw [rRA_n] | rw [if_pos (rfl : (0 : Int32) = 0)] | rw [if_neg (show ¬ (-2 : Int32) = 0 by decide)] | rw [if_neg (show ¬ (-3 : Int32) = 0 by decide)] | rw [if_neg (show ¬ true = false by decide)] | rw [if_pos (show false = false from rfl)] | dsimp only)); first | done | rfl) | rfl, by show va_P D vwCl (wM cA q N S ((rRb N S z).2)) t.heap; rw [ht, e1]; exact hP⟩, hS.F ht⟩) hS.2.2 d_M_rebuild_28
  · refine lv_aload_n hx hb d_M_rebuild_7 rfl (lv_at hl 0 rfl) ?_
    refine k_roi (va_runV (C := R_M) (As := []) (rest := []) ⟨hx, hb, hml, hown, hts⟩ (c_Model_broken l D cA q N S z (by omega) (by omega) (by omega) (by omega)) (k_cwV 0 hts m_code_M_broken m_ini_M m_l_M_102 m_inst_M_broken m_sel_M_broken h_M_broken rfl rfl ⟨Nat.le_of_ble_eq_true rfl, Nat.le_of_ble_eq_true rfl⟩) (k_pR hP hK [0, 1, 2, 3, 4] rfl 0 4 rfl rfl) rfl rfl hl.1 rfl (lv_room (Nat.le_of_ble_eq_true rfl)) d_M_rebuild_8 ⟨Nat.zero_le _, Nat.zero_le _⟩) ?_
    refine lv_if_eq (tgt := 29) hx hb d_M_rebuild_11 rfl (fun g11 => ?_) (fun g11 => ?_)
    · have h11 := of_decide_eq_false (bi_z.mp g11)
      have hrf : rRef N S z = 0 := by unfold rRef; rw [if_pos g4, if_neg h11]
      refine lv_iconst (v := (-1)) hx hb d_M_rebuild_29 (by decide) ?_
      refine lv_istore_n (lv' := [(1, .int (-1)), (0, .ref (q 0))]) hx hb d_M_rebuild_30 rfl hl (by decide) rfl (fun ls hl => ?_)
      refine lv_aload_n hx hb d_M_rebuild_31 rfl (lv_at hl 1 rfl) ?_
      refine va_get (D := D) (ci := 4) (v := .int (nI N)) (C := R_M) (T := T_M) (N := 16) hx hb hts (in_M) hown hK hP 0 rfl rfl 0 (by decide) (hts _ m_f_M_26) (fun _ h9 => h9) rfl d_M_rebuild_32 ?_
      refine lv_iconst (v := 1) hx hb d_M_rebuild_35 (by decide) ?_
      refine lv_isub hx hb d_M_rebuild_36 ?_
      refine k_top (nI (N - 1)) (pk_sub (a := N) (b := 1) (by omega)) ?_
      refine lv_istore_n (lv' := [(2, .int (nI (N - 1))), (1, .int (-1)), (0, .ref (q 0))]) hx hb d_M_rebuild_37 rfl hl (by decide) rfl (fun ls hl => ?_)
      have L38 : ∀ (k : Nat) (ls : Array Slot) (H : Heap) (locs : List Loc), k ≤ N → lv_has ls 4 [(0, .ref (q 0)), (1, .int (rnx (rP z) S N (N - k))), (2, .int (iz k))] → va_P D vwCl (wM cA q N S z) H → va_S (k_A (wM cA q N S z)) s.heap H locs → W p l e (headSpec w_M_rebuild ({ frames := 4, cells := 0, slots := 0, locals := 96 })).room s m ([.ref (q 0)] : List Value).toArray below meth c H locs 0 0 (MQ below (va_Qi (fun (r : Int32) (_ : Unit) => r = (rRb N S z).1) (fun _ t => va_P D vwCl (wM cA q N S ((rRb N S z).2)) t.heap) (k_A (wM cA q N S z))) ([.ref (q 0)] : List Value).toArray s 0 0 (k_A (wM cA q N S z))) (F0 m 38 ls []) := by
        intro k
        induction k with
        | zero =>
          intro ls H locs hk hl hP hS
          have hD : va_D _ (wM cA q N S z) := wM_D hDD
          rw [iz_0, Nat.sub_zero] at hl
          refine lv_iload_n hx hb d_M_rebuild_38 rfl (lv_at hl 2 rfl) ?_
          refine lv_if_lt (tgt := 105) hx hb d_M_rebuild_39 rfl (fun g39 => ?_) (fun g39 => ?_)
          · refine lv_iload_n hx hb d_M_rebuild_105 rfl (lv_at hl 1 rfl) ?_
            refine lv_if_ge (tgt := 112) hx hb d_M_rebuild_106 rfl (fun g106 => ?_) (fun g106 => ?_)
            · have h106 := Int32.not_lt.mpr g106
              obtain ⟨hd1, hd2, hd3, hd4⟩ := rb_rx gN gS hRP h106
              have hl : lv_has ls 4 [(0, .ref (q 0)), (1, .int (nI (tn (rnx (rP z) S N N)))), (2, .int (-1))] := by rw [← hd2]; exact hl
              refine lv_aload_n hx hb d_M_rebuild_112 rfl (lv_at hl 0 rfl) ?_
              refine va_get (D := D) (ci := 4) (v := .ref (q 2)) (C := R_M) (T := T_M) (N := 16) hx hb hts (in_M) hown hK hP 0 rfl rfl 10 (by decide) (hts _ m_f_M_13) (fun _ h9 => h9) rfl d_M_rebuild_113 ?_
              refine lv_iload_n hx hb d_M_rebuild_116 rfl (lv_at hl 1 rfl) ?_
              refine va_iald (n := 10) (f := rP z) hx hb hK hP 2 0 rfl rfl (vp_in_nI (by omega) (by omega)) d_M_rebuild_117 ?_
              refine k_top ((rP z) (tn (rnx (rP z) S N N))) (by rw [show (nI (tn (rnx (rP z) S N N)) : Int32).toNatClampNeg = tn (rnx (rP z) S N N) from nI_clamp (n := tn (rnx (rP z) S N N)) (by omega)]) ?_
              refine k_top (nI (tn (rP z (tn (rnx (rP z) S N N))))) (by exact hd4) ?_
              refine lv_istore_n (lv' := [(2, .int (nI (tn (rP z (tn (rnx (rP z) S N N)))))), (0, .ref (q 0)), (1, .int (nI (tn (rnx (rP z) S N N))))]) hx hb d_M_rebuild_118 rfl hl (by decide) rfl (fun ls hl => ?_)
              refine lv_aload_n hx hb d_M_rebuild_119 rfl (lv_at hl 1 rfl) ?_
              refine lv_dup hx hb d_M_rebuild_120 rfl ?_
              refine va_get (D := D) (ci := 4) (v := .int (rRc z)) (C := R_M) (T := T_M) (N := 16) hx hb hts (in_M) hown hK hP 0 rfl rfl 7 (by decide) (hts _ m_f_M_109) (fun _ h9 => h9) rfl d_M_rebuild_121 ?_
              refine lv_aload_n hx hb d_M_rebuild_124 rfl (lv_at hl 1 rfl) ?_
              refine lv_iload_n hx hb d_M_rebuild_125 rfl (lv_at hl 0 rfl) ?_
              refine k_roi (va_runV (C := R_M) (As := [.int (nI (tn (rP z (tn (rnx (rP z) S N N)))))]) (rest := [.int (rRc z), .ref (q 0)]) ⟨hx, hb, hml, hown, hts⟩ (c_Model_availableIn l D cA q N S z (by omega) (by omega) (by omega) (by omega) (nI (tn (rP z (tn (rnx (rP z) S N N)))))) (k_cwV 1 hts m_code_M_availableIn m_ini_M m_l_M_112 m_inst_M_availableIn m_sel_M_availableIn h_M_availableIn rfl rfl ⟨Nat.le_of_ble_eq_true rfl, Nat.le_of_ble_eq_true rfl⟩) (k_pR hP hK [0, 1, 2, 3, 4] rfl 0 4 rfl rfl) rfl rfl hl.1 rfl (lv_room (Nat.le_of_ble_eq_true rfl)) d_M_rebuild_126 ⟨Nat.zero_le _, Nat.zero_le _⟩) ?_
              have f2 : cntA (rP z) (nI (tn (rP z (tn (rnx (rP z) S N N))))) N ≤ N := cntA_le _ _ _
              refine lv_iadd hx hb d_M_rebuild_129 ?_
              refine va_put (D := D) (ci := 4) (v := .int ((rRc z) + (nI (cntA (rP z) (nI (tn (rP z (tn (rnx (rP z) S N N))))) N)))) (ty := .int) (C := R_M) (T := T_M) (N := 16) hx hb hts (in_M) ty_M tyok_M nm_M hown hK hP hD hS 0 rfl rfl 7 (by decide) (hts _ m_f_M_109) (fun _ h9 => h9) rfl (by decide +kernel) rfl rfl (Nat.le_of_ble_eq_true rfl) d_M_rebuild_130 (fun H locs hP hD hS => ?_)
              have hP : va_P D vwCl (wM cA q N S (tRc z ((rRc z) + (nI (cntA (rP z) (nI (tn (rP z (tn (rnx (rP z) S N N))))) N))))) H := hP
              have hD : va_D (k_A (wM cA q N S z)) (wM cA q N S (tRc z ((rRc z) + (nI (cntA (rP z) (nI (tn (rP z (tn (rnx (rP z) S N N))))) N))))) := wM_D hDD
              refine lv_aload_n hx hb d_M_rebuild_133 rfl (lv_at hl 1 rfl) ?_
              refine lv_iload_n hx hb d_M_rebuild_134 rfl (lv_at hl 0 rfl) ?_
              refine k_wrv (va_runV (C := R_M) (As := [.int (nI (tn (rP z (tn (rnx (rP z) S N N)))))]) (rest := []) ⟨hx, hb, hml, hown, hts⟩ (c_Model_values l D cA q N S (tRc z ((rRc z) + (nI (cntA (rP z) (nI (tn (rP z (tn (rnx (rP z) S N N))))) N)))) (by omega) (by omega) (by omega) (by omega) (tn (rP z (tn (rnx (rP z) S N N)))) (by omega)) (k_cwV 1 hts m_code_M_values m_ini_M m_l_M_116 m_inst_M_values m_sel_M_values h_M_values rfl rfl ⟨Nat.le_of_ble_eq_true rfl, Nat.le_of_ble_eq_true rfl⟩) (k_pW hP hK hD [0, 1, 2, 3, 4] (by decide) rfl 0 4 rfl rfl) rfl rfl hl.1 rfl (lv_room (Nat.le_of_ble_eq_true rfl)) d_M_rebuild_135 ⟨Nat.zero_le _, Nat.zero_le _⟩) hS hD [0, 1, 2, 3, 4] rfl (fun u H1 locs _ hk hP1 hS => ?_)
              have hP : va_P D vwCl (wM cA q N S (tV (tRc z ((rRc z) + (nI (cntA (rP z) (nI (tn (rP z (tn (rnx (rP z) S N N))))) N)))) (rVal N (tn (rP z (tn (rnx (rP z) S N N)))) (rW (tRc z ((rRc z) + (nI (cntA (rP z) (nI (tn (rP z (tn (rnx (rP z) S N N))))) N))))) (rP (tRc z ((rRc z) + (nI (cntA (rP z) (nI (tn (rP z (tn (rnx (rP z) S N N))))) N))))) (rV (tRc z ((rRc z) + (nI (cntA (rP z) (nI (tn (rP z (tn (rnx (rP z) S N N))))) N)))))))) H1 := hP1
              have hD : va_D (k_A (wM cA q N S z)) (wM cA q N S (tV (tRc z ((rRc z) + (nI (cntA (rP z) (nI (tn (rP z (tn (rnx (rP z) S N N))))) N)))) (rVal N (tn (rP z (tn (rnx (rP z) S N N)))) (rW (tRc z ((rRc z) + (nI (cntA (rP z) (nI (tn (rP z (tn (rnx (rP z) S N N))))) N))))) (rP (tRc z ((rRc z) + (nI (cntA (rP z) (nI (tn (rP z (tn (rnx (rP z) S N N))))) N))))) (rV (tRc z ((rRc z) + (nI (cntA (rP z) (nI (tn (rP z (tn (rnx (rP z) S N N))))) N)))))))) := wM_D hDD
              generalize H1 = H at hP hS ⊢
              have hP : va_P D vwCl (wM cA q N S (tV (tRc z ((rRc z) + (nI (cntA (rP z) (nI (tn (rP z (tn (rnx (rP z) S N N))))) N)))) (rVal N (tn (rP z (tn (rnx (rP z) S N N)))) (rW z) (rP z) (rV z)))) H := by simp only [rP_tRc, rV_tRc, rW_tRc] at hP; exact hP
              have hD : va_D (k_A (wM cA q N S z)) (wM cA q N S (tV (tRc z ((rRc z) + (nI (cntA (rP z) (nI (tn (rP z (tn (rnx (rP z) S N N))))) N)))) (rVal N (tn (rP z (tn (rnx (rP z) S N N)))) (rW z) (rP z) (rV z)))) := wM_D hDD
              refine lv_aload_n hx hb d_M_rebuild_138 rfl (lv_at hl 1 rfl) ?_
              refine k_wri (va_runV (C := R_M) (As := []) (rest := []) ⟨hx, hb, hml, hown, hts⟩ (c_Model_act l D cA q N S (tV (tRc z ((rRc z) + (nI (cntA (rP z) (nI (tn (rP z (tn (rnx (rP z) S N N))))) N)))) (rVal N (tn (rP z (tn (rnx (rP z) S N N)))) (rW z) (rP z) (rV z))) (by omega) (by omega) (by omega) (by omega)) (k_cwV 0 hts m_code_M_act m_ini_M m_l_M_79 m_inst_M_act m_sel_M_act h_M_act rfl rfl ⟨Nat.le_of_ble_eq_true rfl, Nat.le_of_ble_eq_true rfl⟩) (k_pW hP hK hD [0, 1, 2, 3, 4] (by decide) rfl 0 4 rfl rfl) rfl rfl hl.1 rfl (lv_room (Nat.le_of_ble_eq_true rfl)) d_M_rebuild_139 ⟨Nat.zero_le _, Nat.zero_le _⟩) hS hD [0, 1, 2, 3, 4] rfl (fun r u H1 locs hp hk hP1 hS => ?_)
              subst hp
              obtain ⟨u3, hu3⟩ : ∃ w, w = (rAct (tV (tRc z ((rRc z) + (nI (cntA (rP z) (nI (tn (rP z (tn (rnx (rP z) S N N))))) N)))) (rVal N (tn (rP z (tn (rnx (rP z) S N N)))) (rW z) (rP z) (rV z)))).2 := ⟨_, rfl⟩
              have hP : va_P D vwCl (wM cA q N S u3) H1 := by rw [hu3]; exact hP1
              have hD : va_D (k_A (wM cA q N S z)) (wM cA q N S u3) := wM_D hDD
              generalize H1 = H at hP hS ⊢
              refine lv_if_ne (tgt := 148) hx hb d_M_rebuild_142 rfl (fun g142 => ?_) (fun g142 => ?_)
              · have h142 := bi_nz.mp g142
                refine lv_aload_n hx hb d_M_rebuild_148 rfl (lv_at hl 1 rfl) ?_
                refine va_get (D := D) (ci := 4) (v := .ref (q 1)) (C := R_M) (T := T_M) (N := 16) hx hb hts (in_M) hown hK hP 0 rfl rfl 9 (by decide) (hts _ m_f_M_7) (fun _ h9 => h9) rfl d_M_rebuild_149 ?_
                refine lv_bipush (v := 16) hx hb d_M_rebuild_152 (by decide) ?_
                refine lv_iload_n hx hb d_M_rebuild_154 rfl (lv_at hl 2 rfl) ?_
                refine lv_imul hx hb d_M_rebuild_155 ?_
                refine k_top (nI (16 * (tn (rnx (rP z) S N N)))) (pk_mul 16 (tn (rnx (rP z) S N N))) ?_
                refine lv_iload_n hx hb d_M_rebuild_156 rfl (lv_at hl 0 rfl) ?_
                refine lv_iadd hx hb d_M_rebuild_157 ?_
                refine k_top (nI (16 * (tn (rnx (rP z) S N N)) + (tn (rP z (tn (rnx (rP z) S N N)))))) (nI_add (16 * (tn (rnx (rP z) S N N))) (tn (rP z (tn (rnx (rP z) S N N))))) ?_
                refine lv_aload_n hx hb d_M_rebuild_158 rfl (lv_at hl 1 rfl) ?_
                refine lv_iload_n hx hb d_M_rebuild_159 rfl (lv_at hl 2 rfl) ?_
                refine lv_iload_n hx hb d_M_rebuild_160 rfl (lv_at hl 0 rfl) ?_
                refine k_roi (va_runV (C := R_M) (As := [.int (nI (tn (rnx (rP z) S N N))), .int (nI (tn (rP z (tn (rnx (rP z) S N N)))))]) (rest := [.int (nI (16 * (tn (rnx (rP z) S N N)) + (tn (rP z (tn (rnx (rP z) S N N)))))), .ref (q 1)]) ⟨hx, hb, hml, hown, hts⟩ (c_Model_valueOn l D cA q N S u3 (by omega) (by omega) (by omega) (by omega) (tn (rnx (rP z) S N N)) (tn (rP z (tn (rnx (rP z) S N N)))) (by omega) (by omega)) (k_cwV 2 hts m_code_M_valueOn m_ini_M m_l_M_133 m_inst_M_valueOn m_sel_M_valueOn h_M_valueOn rfl rfl ⟨Nat.le_of_ble_eq_true rfl, Nat.le_of_ble_eq_true rfl⟩) (k_pR hP hK [0, 1, 2, 3, 4] rfl 0 4 rfl rfl) rfl rfl hl.1 rfl (lv_room (Nat.le_of_ble_eq_true rfl)) d_M_rebuild_161 ⟨Nat.zero_le _, Nat.zero_le _⟩) ?_
                refine va_iast (n := 160) (f := rW u3) hx hb hK hP hD hS 1 0 rfl rfl (vp_in_nI (by omega) (by omega)) d_M_rebuild_164 (fun H locs hP hD hS => ?_)
                rw [show (nI (16 * (tn (rnx (rP z) S N N)) + (tn (rP z (tn (rnx (rP z) S N N))))) : Int32).toNatClampNeg = 16 * (tn (rnx (rP z) S N N)) + (tn (rP z (tn (rnx (rP z) S N N)))) from nI_clamp (n := 16 * (tn (rnx (rP z) S N N)) + (tn (rP z (tn (rnx (rP z) S N N))))) (by omega)] at hP hD
                have hP : va_P D vwCl (wM cA q N S (tW u3 (upd (rW u3) (16 * (tn (rnx (rP z) S N N)) + (tn (rP z (tn (rnx (rP z) S N N))))) (rvO N (tn (rnx (rP z) S N N)) (tn (rP z (tn (rnx (rP z) S N N)))) (rV u3) 10)))) H := wM_tW hP
                have hD : va_D (k_A (wM cA q N S z)) (wM cA q N S (tW u3 (upd (rW u3) (16 * (tn (rnx (rP z) S N N)) + (tn (rP z (tn (rnx (rP z) S N N))))) (rvO N (tn (rnx (rP z) S N N)) (tn (rP z (tn (rnx (rP z) S N N)))) (rV u3) 10)))) := wM_D hDD
                refine lv_aload_n hx hb d_M_rebuild_165 rfl (lv_at hl 1 rfl) ?_
                refine lv_dup hx hb d_M_rebuild_166 rfl ?_
                refine va_get (D := D) (ci := 4) (v := .int (rWc (tW u3 (upd (rW u3) (16 * (tn (rnx (rP z) S N N)) + (tn (rP z (tn (rnx (rP z) S N N))))) (rvO N (tn (rnx (rP z) S N N)) (tn (rP z (tn (rnx (rP z) S N N)))) (rV u3) 10))))) (C := R_M) (T := T_M) (N := 16) hx hb hts (in_M) hown hK hP 0 rfl rfl 8 (by decide) (hts _ m_f_M_83) (fun _ h9 => h9) rfl d_M_rebuild_167 ?_
                refine k_top (rWc u3) (by repeat (first | rw [rWc_tW])) ?_
                refine lv_iconst (v := 1) hx hb d_M_rebuild_170 (by decide) ?_
                refine lv_iadd hx hb d_M_rebuild_171 ?_
                refine va_put (D := D) (ci := 4) (v := .int ((rWc u3) + 1)) (ty := .int) (C := R_M) (T := T_M) (N := 16) hx hb hts (in_M) ty_M tyok_M nm_M hown hK hP hD hS 0 rfl rfl 8 (by decide) (hts _ m_f_M_83) (fun _ h9 => h9) rfl (by decide +kernel) rfl rfl (Nat.le_of_ble_eq_true rfl) d_M_rebuild_172 (fun H locs hP hD hS => ?_)
                have hP : va_P D vwCl (wM cA q N S (tWc (tW u3 (upd (rW u3) (16 * (tn (rnx (rP z) S N N)) + (tn (rP z (tn (rnx (rP z) S N N))))) (rvO N (tn (rnx (rP z) S N N)) (tn (rP z (tn (rnx (rP z) S N N)))) (rV u3) 10))) ((rWc u3) + 1))) H := hP
                have hD : va_D (k_A (wM cA q N S z)) (wM cA q N S (tWc (tW u3 (upd (rW u3) (16 * (tn (rnx (rP z) S N N)) + (tn (rP z (tn (rnx (rP z) S N N))))) (rvO N (tn (rnx (rP z) S N N)) (tn (rP z (tn (rnx (rP z) S N N)))) (rV u3) 10))) ((rWc u3) + 1))) := wM_D hDD
                refine lv_aload_n hx hb d_M_rebuild_175 rfl (lv_at hl 1 rfl) ?_
                refine k_wri (va_runV (C := R_M) (As := []) (rest := []) ⟨hx, hb, hml, hown, hts⟩ (c_Model_act l D cA q N S (tWc (tW u3 (upd (rW u3) (16 * (tn (rnx (rP z) S N N)) + (tn (rP z (tn (rnx (rP z) S N N))))) (rvO N (tn (rnx (rP z) S N N)) (tn (rP z (tn (rnx (rP z) S N N)))) (rV u3) 10))) ((rWc u3) + 1)) (by omega) (by omega) (by omega) (by omega)) (k_cwV 0 hts m_code_M_act m_ini_M m_l_M_79 m_inst_M_act m_sel_M_act h_M_act rfl rfl ⟨Nat.le_of_ble_eq_true rfl, Nat.le_of_ble_eq_true rfl⟩) (k_pW hP hK hD [0, 1, 2, 3, 4] (by decide) rfl 0 4 rfl rfl) rfl rfl hl.1 rfl (lv_room (Nat.le_of_ble_eq_true rfl)) d_M_rebuild_176 ⟨Nat.zero_le _, Nat.zero_le _⟩) hS hD [0, 1, 2, 3, 4] rfl (fun r u H1 locs hp hk hP1 hS => ?_)
                subst hp
                obtain ⟨u4, hu4⟩ : ∃ w, w = (rAct (tWc (tW u3 (upd (rW u3) (16 * (tn (rnx (rP z) S N N)) + (tn (rP z (tn (rnx (rP z) S N N))))) (rvO N (tn (rnx (rP z) S N N)) (tn (rP z (tn (rnx (rP z) S N N)))) (rV u3) 10))) ((rWc u3) + 1))).2 := ⟨_, rfl⟩
                have hP : va_P D vwCl (wM cA q N S u4) H1 := by rw [hu4]; exact hP1
                have hD : va_D (k_A (wM cA q N S z)) (wM cA q N S u4) := wM_D hDD
                generalize H1 = H at hP hS ⊢
                refine lv_if_ne (tgt := 185) hx hb d_M_rebuild_179 rfl (fun g179 => ?_) (fun g179 => ?_)
                · have h179 := bi_nz.mp g179
                  refine lv_aload_n hx hb d_M_rebuild_185 rfl (lv_at hl 1 rfl) ?_
                  refine va_get (D := D) (ci := 4) (v := .ref (q 2)) (C := R_M) (T := T_M) (N := 16) hx hb hts (in_M) hown hK hP 0 rfl rfl 10 (by decide) (hts _ m_f_M_13) (fun _ h9 => h9) rfl d_M_rebuild_186 ?_
                  refine lv_iload_n hx hb d_M_rebuild_189 rfl (lv_at hl 2 rfl) ?_
                  refine lv_iload_n hx hb d_M_rebuild_190 rfl (lv_at hl 0 rfl) ?_
                  refine lv_iconst (v := 1) hx hb d_M_rebuild_191 (by decide) ?_
                  refine lv_iadd hx hb d_M_rebuild_192 ?_
                  refine k_top (nI (tn (rP z (tn (rnx (rP z) S N N))) + 1)) (nI_add (tn (rP z (tn (rnx (rP z) S N N)))) 1) ?_
                  refine va_iast (n := 10) (f := rP u4) hx hb hK hP hD hS 2 0 rfl rfl (vp_in_nI (by omega) (by omega)) d_M_rebuild_193 (fun H locs hP hD hS => ?_)
                  rw [show (nI (tn (rnx (rP z) S N N)) : Int32).toNatClampNeg = tn (rnx (rP z) S N N) from nI_clamp (n := tn (rnx (rP z) S N N)) (by omega)] at hP hD
                  have hP : va_P D vwCl (wM cA q N S (tP u4 (upd (rP u4) (tn (rnx (rP z) S N N)) (nI (tn (rP z (tn (rnx (rP z) S N N))) + 1))))) H := wM_tP hP
                  have hD : va_D (k_A (wM cA q N S z)) (wM cA q N S (tP u4 (upd (rP u4) (tn (rnx (rP z) S N N)) (nI (tn (rP z (tn (rnx (rP z) S N N))) + 1))))) := wM_D hDD
                  refine lv_aload_n hx hb d_M_rebuild_194 rfl (lv_at hl 1 rfl) ?_
                  refine va_get (D := D) (ci := 4) (v := .int (nI S)) (C := R_M) (T := T_M) (N := 16) hx hb hts (in_M) hown hK hP 0 rfl rfl 1 (by decide) (hts _ m_f_M_29) (fun _ h9 => h9) rfl d_M_rebuild_195 ?_
                  refine lv_iconst (v := 1) hx hb d_M_rebuild_198 (by decide) ?_
                  refine lv_isub hx hb d_M_rebuild_199 ?_
                  refine k_top (nI (S - 1)) (pk_sub (a := S) (b := 1) (by omega)) ?_
                  refine lv_iload_n hx hb d_M_rebuild_200 rfl (lv_at hl 0 rfl) ?_
                  refine lv_isub hx hb d_M_rebuild_201 ?_
                  refine k_top (nI (S - 1 - (tn (rP z (tn (rnx (rP z) S N N)))))) (pk_sub (a := S - 1) (b := tn (rP z (tn (rnx (rP z) S N N)))) (by omega)) ?_
                  have e5 : (rRb N S z).2 = tP u4 (upd (rP u4) (tn (rnx (rP z) S N N)) (nI (tn (rP z (tn (rnx (rP z) S N N))) + 1))) := by subst hu4; subst hu3; first | ((try unfold rRb); (try unfold rRb1); (try unfold rRb2); (try unfold rPut); (repeat (first | rw [if_pos g4] | rw [if_neg g4] | rw [if_pos g11] | rw [if_neg g11] | rw [if_pos h11] | rw [if_neg h11] | rw [hrf] | rw [if_pos g39] | rw [if_neg g39] | rw [if_pos g106] | rw [if_neg g106] | rw [if_pos h106] | rw [if_neg h106] | rw [if_pos g142] | rw [if_neg g142] | rw [if_pos h142] | rw [h142] | rw [if_pos g179] | rw [if_neg g179] | rw [if_pos h179] | rw [h179] | rw [rWc_tW] | rw [rRV_n2] | rw [rRA_n] | rw [if_pos (rfl : (0 : Int32) = 0)] | rw [if_neg (show ¬ (-2 : Int32) = 0 by decide)] | rw [if_neg (show ¬ (-3 : Int32) = 0 by decide)] | rw [if_neg (show ¬ true = false by decide)] | rw [if_pos (show false = false from rfl)] | dsimp only)); first | done | rfl) | rfl
                  exact W.iret (v := nI (S - 1 - (tn (rP z (tn (rnx (rP z) S N N)))))) hx hb hr (fun t ht hW => ⟨⟨_, (), rfl, by subst hu4; subst hu3; first | ((try unfold rRb); (try unfold rRb1); (try unfold rRb2); (try unfold rPut); (repeat (first | rw [if_pos g4] | rw [if_neg g4] | rw [if_pos g11] | rw [if_neg g11] | rw [if_pos h11] | rw [if_neg h11] | rw [hrf] | rw [if_pos g39] | rw [if_neg g39] | rw [if_pos g106] | rw [if_neg g106] | rw [if_pos h106] | rw [if_neg h106] | rw [if_pos g142] | rw [if_neg g142] | rw [if_pos h142] | rw [h142] | rw [if_pos g179] | rw [if_neg g179] | rw [if_pos h179] | rw [h179] | rw [rWc_tW] | rw [rRV_n2] | rw [rRA_n] | rw [if_pos (rfl : (0 : Int32) = 0)] | rw [if_neg (show ¬ (-2 : Int32) = 0 by decide)] | rw [if_neg (show ¬ (-3 : Int32) = 0 by decide)] | rw [if_neg (show ¬ true = false by decide)] | rw [if_pos (show false = false from rfl)] | dsimp only)); first | done | rfl) | rfl, by show va_P D vwCl (wM cA q N S ((rRb N S z).2)) t.heap; rw [ht, e5]; exact hP⟩, hS.F ht⟩) hS.2.2 d_M_rebuild_202
                · have h179 := bi_z.mp g179
                  refine lv_bipush (v := (-4)) hx hb d_M_rebuild_182 (by decide) ?_
                  have e6 : (rRb N S z).2 = u4 := by subst hu4; subst hu3; first | ((try unfold rRb); (try unfold rRb1); (try unfold rRb2); (try unfold rPut); (repeat (first | rw [if_pos g4] | rw [if_neg g4] | rw [if_pos g11] | rw [if_neg g11] | rw [if_pos h11] | rw [if_neg h11] | rw [hrf] | rw [if_pos g39] | rw [if_neg g39] | rw [if_pos g106] | rw [if_neg g106] | rw [if_pos h106] | rw [if_neg h106] | rw [if_pos g142] | rw [if_neg g142] | rw [if_pos h142] | rw [h142] | rw [if_pos g179] | rw [if_neg g179] | rw [if_pos h179] | rw [h179] | rw [rWc_tW] | rw [rRV_n2] | rw [rRA_n] | rw [if_pos (rfl : (0 : Int32) = 0)] | rw [if_neg (show ¬ (-2 : Int32) = 0 by decide)] | rw [if_neg (show ¬ (-3 : Int32) = 0 by decide)] | rw [if_neg (show ¬ true = false by decide)] | rw [if_pos (show false = false from rfl)] | dsimp only)); first | done | rfl) | rfl
                  exact W.iret (v := (-4)) hx hb hr (fun t ht hW => ⟨⟨_, (), rfl, by subst hu4; subst hu3; first | ((try unfold rRb); (try unfold rRb1); (try unfold rRb2); (try unfold rPut); (repeat (first | rw [if_pos g4] | rw [if_neg g4] | rw [if_pos g11] | rw [if_neg g11] | rw [if_pos h11] | rw [if_neg h11] | rw [hrf] | rw [if_pos g39] | rw [if_neg g39] | rw [if_pos g106] | rw [if_neg g106] | rw [if_pos h106] | rw [if_neg h106] | rw [if_pos g142] | rw [if_neg g142] | rw [if_pos h142] | rw [h142] | rw [if_pos g179] | rw [if_neg g179] | rw [if_pos h179] | rw [h179] | rw [rWc_tW] | rw [rRV_n2] | rw [rRA_n] | rw [if_pos (rfl : (0 : Int32) = 0)] | rw [if_neg (show ¬ (-2 : Int32) = 0 by decide)] | rw [if_neg (show ¬ (-3 : Int32) = 0 by decide)] | rw [if_neg (show ¬ true = false by decide)] | rw [if_pos (show false = false from rfl)] | dsimp only)); first | done | rfl) | rfl, by show va_P D vwCl (wM cA q N S ((rRb N S z).2)) t.heap; rw [ht, e6]; exact hP⟩, hS.F ht⟩) hS.2.2 d_M_rebuild_184
              · have h142 := bi_z.mp g142
                refine lv_bipush (v := (-4)) hx hb d_M_rebuild_145 (by decide) ?_
                have e7 : (rRb N S z).2 = u3 := by subst hu3; first | ((try unfold rRb); (try unfold rRb1); (try unfold rRb2); (try unfold rPut); (repeat (first | rw [if_pos g4] | rw [if_neg g4] | rw [if_pos g11] | rw [if_neg g11] | rw [if_pos h11] | rw [if_neg h11] | rw [hrf] | rw [if_pos g39] | rw [if_neg g39] | rw [if_pos g106] | rw [if_neg g106] | rw [if_pos h106] | rw [if_neg h106] | rw [if_pos g142] | rw [if_neg g142] | rw [if_pos h142] | rw [h142] | rw [rWc_tW] | rw [rRV_n2] | rw [rRA_n] | rw [if_pos (rfl : (0 : Int32) = 0)] | rw [if_neg (show ¬ (-2 : Int32) = 0 by decide)] | rw [if_neg (show ¬ (-3 : Int32) = 0 by decide)] | rw [if_neg (show ¬ true = false by decide)] | rw [if_pos (show false = false from rfl)] | dsimp only)); first | done | rfl) | rfl
                exact W.iret (v := (-4)) hx hb hr (fun t ht hW => ⟨⟨_, (), rfl, by subst hu3; first | ((try unfold rRb); (try unfold rRb1); (try unfold rRb2); (try unfold rPut); (repeat (first | rw [if_pos g4] | rw [if_neg g4] | rw [if_pos g11] | rw [if_neg g11] | rw [if_pos h11] | rw [if_neg h11] | rw [hrf] | rw [if_pos g39] | rw [if_neg g39] | rw [if_pos g106] | rw [if_neg g106] | rw [if_pos h106] | rw [if_neg h106] | rw [if_pos g142] | rw [if_neg g142] | rw [if_pos h142] | rw [h142] | rw [rWc_tW] | rw [rRV_n2] | rw [rRA_n] | rw [if_pos (rfl : (0 : Int32) = 0)] | rw [if_neg (show ¬ (-2 : Int32) = 0 by decide)] | rw [if_neg (show ¬ (-3 : Int32) = 0 by decide)] | rw [if_neg (show ¬ true = false by decide)] | rw [if_pos (show false = false from rfl)] | dsimp only)); first | done | rfl) | rfl, by show va_P D vwCl (wM cA q N S ((rRb N S z).2)) t.heap; rw [ht, e7]; exact hP⟩, hS.F ht⟩) hS.2.2 d_M_rebuild_147
            · have h106 := Int32.not_le.mp g106
              refine lv_bipush (v := (-5)) hx hb d_M_rebuild_109 (by decide) ?_
              have e8 : (rRb N S z).2 = z := by first | ((try unfold rRb); (try unfold rRb1); (try unfold rRb2); (try unfold rPut); (repeat (first | rw [if_pos g4] | rw [if_neg g4] | rw [if_pos g11] | rw [if_neg g11] | rw [if_pos h11] | rw [if_neg h11] | rw [hrf] | rw [if_pos g39] | rw [if_neg g39] | rw [if_pos g106] | rw [if_neg g106] | rw [if_pos h106] | rw [if_neg h106] | rw [rWc_tW] | rw [rRV_n2] | rw [rRA_n] | rw [if_pos (rfl : (0 : Int32) = 0)] | rw [if_neg (show ¬ (-2 : Int32) = 0 by decide)] | rw [if_neg (show ¬ (-3 : Int32) = 0 by decide)] | rw [if_neg (show ¬ true = false by decide)] | rw [if_pos (show false = false from rfl)] | dsimp only)); first | done | rfl) | rfl
              exact W.iret (v := (-5)) hx hb hr (fun t ht hW => ⟨⟨_, (), rfl, by first | ((try unfold rRb); (try unfold rRb1); (try unfold rRb2); (try unfold rPut); (repeat (first | rw [if_pos g4] | rw [if_neg g4] | rw [if_pos g11] | rw [if_neg g11] | rw [if_pos h11] | rw [if_neg h11] | rw [hrf] | rw [if_pos g39] | rw [if_neg g39] | rw [if_pos g106] | rw [if_neg g106] | rw [if_pos h106] | rw [if_neg h106] | rw [rWc_tW] | rw [rRV_n2] | rw [rRA_n] | rw [if_pos (rfl : (0 : Int32) = 0)] | rw [if_neg (show ¬ (-2 : Int32) = 0 by decide)] | rw [if_neg (show ¬ (-3 : Int32) = 0 by decide)] | rw [if_neg (show ¬ true = false by decide)] | rw [if_pos (show false = false from rfl)] | dsimp only)); first | done | rfl) | rfl, by show va_P D vwCl (wM cA q N S ((rRb N S z).2)) t.heap; rw [ht, e8]; exact hP⟩, hS.F ht⟩) hS.2.2 d_M_rebuild_111
          · exact absurd g39 (by decide)
        | succ k ih =>
          intro ls H locs hk hl hP hS
          have hD : va_D _ (wM cA q N S z) := wM_D hDD
          rw [iz_s] at hl
          refine lv_iload_n hx hb d_M_rebuild_38 rfl (lv_at hl 2 rfl) ?_
          refine lv_if_lt (tgt := 105) hx hb d_M_rebuild_39 rfl (fun g39 => ?_) (fun g39 => ?_)
          · have h39 : k < 0 := (nI_ltI (a := k) (b := 0) (by omega) (by omega)).mp g39
            have k39 : ¬ 0 ≤ k := by omega
            exfalso; omega
          · have h39 : ¬ k < 0 := fun q9 => g39 ((nI_ltI (a := k) (b := 0) (by omega) (by omega)).mpr q9)
            have k39 : 0 ≤ k := by omega
            refine lv_aload_n hx hb d_M_rebuild_42 rfl (lv_at hl 0 rfl) ?_
            refine va_get (D := D) (ci := 4) (v := .ref (q 2)) (C := R_M) (T := T_M) (N := 16) hx hb hts (in_M) hown hK hP 0 rfl rfl 10 (by decide) (hts _ m_f_M_13) (fun _ h9 => h9) rfl d_M_rebuild_43 ?_
            refine lv_iload_n hx hb d_M_rebuild_46 rfl (lv_at hl 2 rfl) ?_
            refine va_iald (n := 10) (f := rP z) hx hb hK hP 2 0 rfl rfl (vp_in_nI (by omega) (by omega)) d_M_rebuild_47 ?_
            refine k_top ((rP z) k) (by rw [show (nI k : Int32).toNatClampNeg = k from nI_clamp (n := k) (by omega)]) ?_
            refine lv_if_lt (tgt := 68) hx hb d_M_rebuild_48 rfl (fun g48 => ?_) (fun g48 => ?_)
            · have h48 := Int32.not_le.mpr g48
              refine lv_iconst (v := 0) hx hb d_M_rebuild_68 (by decide) ?_
              refine lv_istore_n (lv' := [(3, .int 0), (0, .ref (q 0)), (1, .int (rnx (rP z) S N (N - (k + 1)))), (2, .int (nI k))]) hx hb d_M_rebuild_69 rfl hl (by decide) rfl (fun ls hl => ?_)
              refine lv_iload_n hx hb d_M_rebuild_70 rfl (lv_at hl 0 rfl) ?_
              refine lv_if_eq (tgt := 97) hx hb d_M_rebuild_71 rfl (fun g71 => ?_) (fun g71 => ?_)
              · refine lv_iload_n hx hb d_M_rebuild_97 rfl (lv_at hl 2 rfl) ?_
                refine lv_istore_n (lv' := [(1, .int (rnx (rP z) S N (N - (k + 1)))), (3, .int 0), (0, .ref (q 0)), (2, .int (nI k))]) hx hb d_M_rebuild_98 rfl hl (by decide) rfl (fun ls hl => ?_)
                refine lv_iinc (k := 3) (v := iz k) (lv' := [(2, .int (iz k)), (1, .int (rnx (rP z) S N (N - (k + 1)))), (3, .int 0), (0, .ref (q 0))]) hx hb d_M_rebuild_99 hl rfl (rfl) (by decide) rfl (fun ls hl => ?_)
                refine lv_goto hx hb d_M_rebuild_102 rfl ?_
                have e9 : rnx (rP z) S N (N - k) = rnx (rP z) S N (N - (k + 1)) := by first | (rw [Nat.sub_self]; rfl) | (rw [rnx_st (by omega)]; first | exact if_pos ⟨⟨h48, h61⟩, by first | exact Or.inl (by assumption) | exact Or.inr (by assumption)⟩ | exact (if_neg (fun w => h90 (w.2.resolve_left g75))).trans hd2 | exact if_neg (fun w => h48 w.1.1) | exact if_neg (fun w => h61 w.1.2))
                exact ih ls H locs (by omega) (by rw [e9]; exact lv_sub hl [3, 1, 0] rfl) hP hS
              · exact absurd g71 (by decide)
            · have h48 := Int32.not_lt.mp g48
              refine lv_aload_n hx hb d_M_rebuild_51 rfl (lv_at hl 0 rfl) ?_
              refine va_get (D := D) (ci := 4) (v := .ref (q 2)) (C := R_M) (T := T_M) (N := 16) hx hb hts (in_M) hown hK hP 0 rfl rfl 10 (by decide) (hts _ m_f_M_13) (fun _ h9 => h9) rfl d_M_rebuild_52 ?_
              refine lv_iload_n hx hb d_M_rebuild_55 rfl (lv_at hl 2 rfl) ?_
              refine va_iald (n := 10) (f := rP z) hx hb hK hP 2 0 rfl rfl (vp_in_nI (by omega) (by omega)) d_M_rebuild_56 ?_
              refine k_top ((rP z) k) (by rw [show (nI k : Int32).toNatClampNeg = k from nI_clamp (n := k) (by omega)]) ?_
              refine lv_aload_n hx hb d_M_rebuild_57 rfl (lv_at hl 0 rfl) ?_
              refine va_get (D := D) (ci := 4) (v := .int (nI S)) (C := R_M) (T := T_M) (N := 16) hx hb hts (in_M) hown hK hP 0 rfl rfl 1 (by decide) (hts _ m_f_M_29) (fun _ h9 => h9) rfl d_M_rebuild_58 ?_
              refine lv_icmp_ge (tgt := 68) hx hb d_M_rebuild_61 rfl (fun g61 => ?_) (fun g61 => ?_)
              · have h61 := Int32.not_lt.mpr g61
                refine lv_iconst (v := 0) hx hb d_M_rebuild_68 (by decide) ?_
                refine lv_istore_n (lv' := [(3, .int 0), (0, .ref (q 0)), (1, .int (rnx (rP z) S N (N - (k + 1)))), (2, .int (nI k))]) hx hb d_M_rebuild_69 rfl hl (by decide) rfl (fun ls hl => ?_)
                refine lv_iload_n hx hb d_M_rebuild_70 rfl (lv_at hl 0 rfl) ?_
                refine lv_if_eq (tgt := 97) hx hb d_M_rebuild_71 rfl (fun g71 => ?_) (fun g71 => ?_)
                · refine lv_iload_n hx hb d_M_rebuild_97 rfl (lv_at hl 2 rfl) ?_
                  refine lv_istore_n (lv' := [(1, .int (rnx (rP z) S N (N - (k + 1)))), (3, .int 0), (0, .ref (q 0)), (2, .int (nI k))]) hx hb d_M_rebuild_98 rfl hl (by decide) rfl (fun ls hl => ?_)
                  refine lv_iinc (k := 3) (v := iz k) (lv' := [(2, .int (iz k)), (1, .int (rnx (rP z) S N (N - (k + 1)))), (3, .int 0), (0, .ref (q 0))]) hx hb d_M_rebuild_99 hl rfl (rfl) (by decide) rfl (fun ls hl => ?_)
                  refine lv_goto hx hb d_M_rebuild_102 rfl ?_
                  have e10 : rnx (rP z) S N (N - k) = rnx (rP z) S N (N - (k + 1)) := by first | (rw [Nat.sub_self]; rfl) | (rw [rnx_st (by omega)]; first | exact if_pos ⟨⟨h48, h61⟩, by first | exact Or.inl (by assumption) | exact Or.inr (by assumption)⟩ | exact (if_neg (fun w => h90 (w.2.resolve_left g75))).trans hd2 | exact if_neg (fun w => h48 w.1.1) | exact if_neg (fun w => h61 w.1.2))
                  exact ih ls H locs (by omega) (by rw [e10]; exact lv_sub hl [3, 1, 0] rfl) hP hS
                · exact absurd g71 (by decide)
              · have h61 := Int32.not_le.mp g61
                refine lv_iconst (v := 1) hx hb d_M_rebuild_64 (by decide) ?_
                refine lv_goto hx hb d_M_rebuild_65 rfl ?_
                refine lv_istore_n (lv' := [(3, .int 1), (0, .ref (q 0)), (1, .int (rnx (rP z) S N (N - (k + 1)))), (2, .int (nI k))]) hx hb d_M_rebuild_69 rfl hl (by decide) rfl (fun ls hl => ?_)
                refine lv_iload_n hx hb d_M_rebuild_70 rfl (lv_at hl 0 rfl) ?_
                refine lv_if_eq (tgt := 97) hx hb d_M_rebuild_71 rfl (fun g71 => ?_) (fun g71 => ?_)
                · exact absurd g71 (by decide)
                · refine lv_iload_n hx hb d_M_rebuild_74 rfl (lv_at hl 2 rfl) ?_
                  refine lv_if_lt (tgt := 93) hx hb d_M_rebuild_75 rfl (fun g75 => ?_) (fun g75 => ?_)
                  · have h75 := Int32.not_le.mpr g75
                    refine lv_iload_n hx hb d_M_rebuild_93 rfl (lv_at hl 3 rfl) ?_
                    refine lv_goto hx hb d_M_rebuild_94 rfl ?_
                    refine lv_istore_n (lv' := [(1, .int (nI k)), (3, .int 1), (0, .ref (q 0)), (2, .int (nI k))]) hx hb d_M_rebuild_98 rfl hl (by decide) rfl (fun ls hl => ?_)
                    refine lv_iinc (k := 3) (v := iz k) (lv' := [(2, .int (iz k)), (1, .int (nI k)), (3, .int 1), (0, .ref (q 0))]) hx hb d_M_rebuild_99 hl rfl (rfl) (by decide) rfl (fun ls hl => ?_)
                    refine lv_goto hx hb d_M_rebuild_102 rfl ?_
                    have e11 : rnx (rP z) S N (N - k) = nI k := by first | (rw [Nat.sub_self]; rfl) | (rw [rnx_st (by omega)]; first | exact if_pos ⟨⟨h48, h61⟩, by first | exact Or.inl (by assumption) | exact Or.inr (by assumption)⟩ | exact (if_neg (fun w => h90 (w.2.resolve_left g75))).trans hd2 | exact if_neg (fun w => h48 w.1.1) | exact if_neg (fun w => h61 w.1.2))
                    exact ih ls H locs (by omega) (by rw [e11]; exact lv_sub hl [3, 1, 0] rfl) hP hS
                  · have h75 := Int32.not_lt.mp g75
                    obtain ⟨hd1, hd2⟩ := rnx_tn (P := rP z) (S := S) gN (show N - (k + 1) ≤ N by omega) g75
                    have hl : lv_has ls 4 [(3, .int 1), (0, .ref (q 0)), (1, .int (nI (tn (rnx (rP z) S N (N - (k + 1)))))), (2, .int (nI k))] := by rw [← hd2]; exact hl
                    refine lv_aload_n hx hb d_M_rebuild_78 rfl (lv_at hl 1 rfl) ?_
                    refine va_get (D := D) (ci := 4) (v := .ref (q 2)) (C := R_M) (T := T_M) (N := 16) hx hb hts (in_M) hown hK hP 0 rfl rfl 10 (by decide) (hts _ m_f_M_13) (fun _ h9 => h9) rfl d_M_rebuild_79 ?_
                    refine lv_iload_n hx hb d_M_rebuild_82 rfl (lv_at hl 3 rfl) ?_
                    refine va_iald (n := 10) (f := rP z) hx hb hK hP 2 0 rfl rfl (vp_in_nI (by omega) (by omega)) d_M_rebuild_83 ?_
                    refine k_top ((rP z) k) (by rw [show (nI k : Int32).toNatClampNeg = k from nI_clamp (n := k) (by omega)]) ?_
                    refine lv_aload_n hx hb d_M_rebuild_84 rfl (lv_at hl 1 rfl) ?_
                    refine va_get (D := D) (ci := 4) (v := .ref (q 2)) (C := R_M) (T := T_M) (N := 16) hx hb hts (in_M) hown hK hP 0 rfl rfl 10 (by decide) (hts _ m_f_M_13) (fun _ h9 => h9) rfl d_M_rebuild_85 ?_
                    refine lv_iload_n hx hb d_M_rebuild_88 rfl (lv_at hl 2 rfl) ?_
                    refine va_iald (n := 10) (f := rP z) hx hb hK hP 2 0 rfl rfl (vp_in_nI (by omega) (by omega)) d_M_rebuild_89 ?_
                    refine k_top ((rP z) (tn (rnx (rP z) S N (N - (k + 1))))) (by rw [show (nI (tn (rnx (rP z) S N (N - (k + 1)))) : Int32).toNatClampNeg = tn (rnx (rP z) S N (N - (k + 1))) from nI_clamp (n := tn (rnx (rP z) S N (N - (k + 1)))) (by omega)]) ?_
                    refine lv_icmp_gt (tgt := 97) hx hb d_M_rebuild_90 rfl (fun g90 => ?_) (fun g90 => ?_)
                    · have h90 := Int32.not_le.mpr g90
                      refine lv_iload_n hx hb d_M_rebuild_97 rfl (lv_at hl 2 rfl) ?_
                      refine lv_istore_n (lv' := [(1, .int (nI (tn (rnx (rP z) S N (N - (k + 1)))))), (3, .int 1), (0, .ref (q 0)), (2, .int (nI k))]) hx hb d_M_rebuild_98 rfl hl (by decide) rfl (fun ls hl => ?_)
                      refine lv_iinc (k := 3) (v := iz k) (lv' := [(2, .int (iz k)), (1, .int (nI (tn (rnx (rP z) S N (N - (k + 1)))))), (3, .int 1), (0, .ref (q 0))]) hx hb d_M_rebuild_99 hl rfl (rfl) (by decide) rfl (fun ls hl => ?_)
                      refine lv_goto hx hb d_M_rebuild_102 rfl ?_
                      have e12 : rnx (rP z) S N (N - k) = nI (tn (rnx (rP z) S N (N - (k + 1)))) := by first | (rw [Nat.sub_self]; rfl) | (rw [rnx_st (by omega)]; first | exact if_pos ⟨⟨h48, h61⟩, by first | exact Or.inl (by assumption) | exact Or.inr (by assumption)⟩ | exact (if_neg (fun w => h90 (w.2.resolve_left g75))).trans hd2 | exact if_neg (fun w => h48 w.1.1) | exact if_neg (fun w => h61 w.1.2))
                      exact ih ls H locs (by omega) (by rw [e12]; exact lv_sub hl [3, 1, 0] rfl) hP hS
                    · have h90 := Int32.not_lt.mp g90
                      refine lv_iload_n hx hb d_M_rebuild_93 rfl (lv_at hl 3 rfl) ?_
                      refine lv_goto hx hb d_M_rebuild_94 rfl ?_
                      refine lv_istore_n (lv' := [(1, .int (nI k)), (3, .int 1), (0, .ref (q 0)), (2, .int (nI k))]) hx hb d_M_rebuild_98 rfl hl (by decide) rfl (fun ls hl => ?_)
                      refine lv_iinc (k := 3) (v := iz k) (lv' := [(2, .int (iz k)), (1, .int (nI k)), (3, .int 1), (0, .ref (q 0))]) hx hb d_M_rebuild_99 hl rfl (rfl) (by decide) rfl (fun ls hl => ?_)
                      refine lv_goto hx hb d_M_rebuild_102 rfl ?_
                      have e13 : rnx (rP z) S N (N - k) = nI k := by first | (rw [Nat.sub_self]; rfl) | (rw [rnx_st (by omega)]; first | exact if_pos ⟨⟨h48, h61⟩, by first | exact Or.inl (by assumption) | exact Or.inr (by assumption)⟩ | exact (if_neg (fun w => h90 (w.2.resolve_left g75))).trans hd2 | exact if_neg (fun w => h48 w.1.1) | exact if_neg (fun w => h61 w.1.2))
                      exact ih ls H locs (by omega) (by rw [e13]; exact lv_sub hl [3, 1, 0] rfl) hP hS
      have e14 : rnx (rP z) S N (N - N) = (-1) := by first | (rw [Nat.sub_self]; rfl) | (rw [rnx_st (by omega)]; first | exact if_pos ⟨⟨h48, h61⟩, by first | exact Or.inl (by assumption) | exact Or.inr (by assumption)⟩ | exact (if_neg (fun w => h90 (w.2.resolve_left g75))).trans hd2 | exact if_neg (fun w => h48 w.1.1) | exact if_neg (fun w => h61 w.1.2))
      have e15 : iz N = nI (N - 1) := by first | exact iz_p (by omega) | rfl
      exact L38 N ls s.heap [] (by omega) (by rw [e14, e15]; exact lv_sub hl [2, 1, 0] rfl) hP hS
    · have h11 := of_decide_eq_true (bi_nz.mp g11)
      refine lv_aload_n hx hb d_M_rebuild_14 rfl (lv_at hl 0 rfl) ?_
      refine va_get (D := D) (ci := 4) (v := .int (rDn z)) (C := R_M) (T := T_M) (N := 16) hx hb hts (in_M) hown hK hP 0 rfl rfl 3 (by decide) (hts _ m_f_M_73) (fun _ h9 => h9) rfl d_M_rebuild_15 ?_
      refine lv_if_eq (tgt := 26) hx hb d_M_rebuild_18 rfl (fun g18 => ?_) (fun g18 => ?_)
      · have hrf : rRef N S z = -3 := by unfold rRef; rw [if_pos g18, if_pos h11]
        refine lv_bipush (v := (-3)) hx hb d_M_rebuild_26 (by decide) ?_
        have e16 : (rRb N S z).2 = z := by first | ((try unfold rRb); (try unfold rRb1); (try unfold rRb2); (try unfold rPut); (repeat (first | rw [if_pos g4] | rw [if_neg g4] | rw [if_pos g11] | rw [if_neg g11] | rw [if_pos h11] | rw [if_neg h11] | rw [if_pos g18] | rw [if_neg g18] | rw [hrf] | rw [rWc_tW] | rw [rRV_n2] | rw [rRA_n] | rw [if_pos (rfl : (0 : Int32) = 0)] | rw [if_neg (show ¬ (-2 : Int32) = 0 by decide)] | rw [if_neg (show ¬ (-3 : Int32) = 0 by decide)] | rw [if_neg (show ¬ true = false by decide)] | rw [if_pos (show false = false from rfl)] | dsimp only)); first | done | rfl) | rfl
        exact W.iret (v := (-3)) hx hb hr (fun t ht hW => ⟨⟨_, (), rfl, by first | ((try unfold rRb); (try unfold rRb1); (try unfold rRb2); (try unfold rPut); (repeat (first | rw [if_pos g4] | rw [if_neg g4] | rw [if_pos g11] | rw [if_neg g11] | rw [if_pos h11] | rw [if_neg h11] | rw [if_pos g18] | rw [if_neg g18] | rw [hrf] | rw [rWc_tW] | rw [rRV_n2] | rw [rRA_n] | rw [if_pos (rfl : (0 : Int32) = 0)] | rw [if_neg (show ¬ (-2 : Int32) = 0 by decide)] | rw [if_neg (show ¬ (-3 : Int32) = 0 by decide)] | rw [if_neg (show ¬ true = false by decide)] | rw [if_pos (show false = false from rfl)] | dsimp only)); first | done | rfl) | rfl, by show va_P D vwCl (wM cA q N S ((rRb N S z).2)) t.heap; rw [ht, e16]; exact hP⟩, hS.F ht⟩) hS.2.2 d_M_rebuild_28
      · exact absurd g4 g18
