set_option maxHeartbeats 4000000 in
set_option maxRecDepth 100000 in
theorem c_Model_writeRun (l : Launch) (D : va_G) (cA : ClassId) (q : Nat → Nat) (N S : Nat) (z : RS) (gN4 : 4 ≤ N) (gN : N ≤ 10) (gS1 : 1 ≤ S) (gS : S ≤ 16) (x n v : Int32) : Met l y_M_writeRun w_M_writeRun ({ frames := 5, cells := 0, slots := 0, locals := 128 }) (va_Pc [.ref (q 0), .int x, .int n, .int v] (k_Wc D [(cA, .int)] (wM cA q N S z))) (va_Qi (fun (r : Int32) (_ : Unit) => r = (rWRun N S x n v z).1) (fun _ t => va_P D vwCl (wM cA q N S ((rWRun N S x n v z).2)) t.heap) (k_A (wM cA q N S z))) 0 0 (k_A (wM cA q N S z)) := by
  refine Met.ofW (cc := b_M_writeRun) (maxL := 9) (ret := (some .int)) (by decide) rfl ?_
  intro p e s m args below meth c s₁ B hml hv
  obtain ⟨rfl, hP, hK, hD0⟩ := hv
  have hx := B.exec
  have hb := B.bytes
  have hr := B.returns
  have hts0 := atoms_spec (ws := w_M_writeRun) B.pre
  have hts : ∀ w ∈ lw_g, w.before _ s = true := fun w h => hts0 w (List.mem_cons_of_mem _ h)
  have hown : s.vm.findClass R_M = some m.cls := findClass_of_methodNamed B.named
  have hlocks := B.notSynchronized
  have hD := k_Dself hD0
  have hDD := hD
  have hS : va_S (k_A (wM cA q N S z)) s.heap s.heap [] := va_S.rf
  have hl := lv_entry ([.ref (q 0), .int x, .int n, .int v]) (n := 9) (Nat.le_of_ble_eq_true rfl)
  rw [lg_entry_eq]
  generalize (lg_sl ([.ref (q 0), .int x, .int n, .int v]) ++ List.replicate (9 - (lg_sl ([.ref (q 0), .int x, .int n, .int v])).length) Slot.unset).toArray = ls at hl ⊢
  have hl : lv_has ls 9 [(0, .ref (q 0)), (1, .int x), (2, .int n), (3, .int v)] := hl
  have hSN : S * (N - 2) ≤ 16 * 8 := Nat.mul_le_mul gS (by omega)
  refine lv_aload_n hx hb d_M_writeRun_0 rfl (lv_at hl 0 rfl) ?_
  refine lv_iload_n hx hb d_M_writeRun_1 rfl (lv_at hl 1 rfl) ?_
  refine k_roi (va_runV (C := R_M) (As := [.int x]) (rest := []) ⟨hx, hb, hml, hown, hts⟩ (c_Model_isBlock l D cA q N S z (by omega) (by omega) (by omega) (by omega) x) (k_cwV 1 hts m_code_M_isBlock m_ini_M m_l_M_96 m_inst_M_isBlock m_sel_M_isBlock h_M_isBlock rfl rfl ⟨Nat.le_of_ble_eq_true rfl, Nat.le_of_ble_eq_true rfl⟩) (k_pR hP hK [0, 1, 2, 3, 4] rfl 0 4 rfl rfl) rfl rfl hl.1 rfl (lv_room (Nat.le_of_ble_eq_true rfl)) d_M_writeRun_2 ⟨Nat.zero_le _, Nat.zero_le _⟩) ?_
  refine lv_if_eq (tgt := 30) hx hb d_M_writeRun_5 rfl (fun g5 => ?_) (fun g5 => ?_)
  · have h5 := of_decide_eq_false (bi_z.mp g5)
    refine lv_iconst (v := (-1)) hx hb d_M_writeRun_30 (by decide) ?_
    have e1 : (rWRun N S x n v z).2 = z := by first | ((try unfold rWRun); (repeat (first | rw [if_pos g5] | rw [if_neg g5] | rw [if_pos h5] | rw [if_neg h5] | rw [rRV_n2] | rw [rRA_n] | rw [if_pos (rfl : (0 : Int32) = 0)] | rw [if_neg (show ¬ (-2 : Int32) = 0 by decide)] | rw [if_neg (show ¬ (-3 : Int32) = 0 by decide)] | rw [if_neg (show ¬ true = false by decide)] | rw [if_pos (show false = false from rfl)] | dsimp only)); first | done | rfl) | rfl
    exact W.iret (v := (-1)) hx hb hr (fun t ht hW => ⟨⟨_, (), rfl, by first | ((try unfold rWRun); (repeat (first | rw [if_pos g5] | rw [if_neg g5] | rw [if_pos h5] | rw [if_neg h5] | rw [rRV_n2] | rw [rRA_n] | rw [if_pos (rfl : (0 : Int32) = 0)] | rw [if_neg (show ¬ (-2 : Int32) = 0 by decide)] | rw [if_neg (show ¬ (-3 : Int32) = 0 by decide)] | rw [if_neg (show ¬ true = false by decide)] | rw [if_pos (show false = false from rfl)] | dsimp only)); first | done | rfl) | rfl, by show va_P D vwCl (wM cA q N S ((rWRun N S x n v z).2)) t.heap; rw [ht, e1]; exact hP⟩, hS.F ht⟩) hS.2.2 d_M_writeRun_31
  · have h5 := of_decide_eq_true (bi_nz.mp g5)
    obtain ⟨hx1, hx2⟩ := tn_of (by omega) h5
    have hl : lv_has ls 9 [(0, .ref (q 0)), (1, .int (nI (tn x))), (2, .int n), (3, .int v)] := by rw [← hx2]; exact hl
    refine lv_iload_n hx hb d_M_writeRun_8 rfl (lv_at hl 2 rfl) ?_
    refine lv_iconst (v := 1) hx hb d_M_writeRun_9 (by decide) ?_
    refine lv_icmp_lt (tgt := 30) hx hb d_M_writeRun_10 rfl (fun g10 => ?_) (fun g10 => ?_)
    · have h10 := Int32.not_le.mpr g10
      refine lv_iconst (v := (-1)) hx hb d_M_writeRun_30 (by decide) ?_
      have e2 : (rWRun N S x n v z).2 = z := by first | ((try unfold rWRun); (repeat (first | rw [if_pos g5] | rw [if_neg g5] | rw [if_pos h5] | rw [if_neg h5] | rw [if_pos g10] | rw [if_neg g10] | rw [if_pos h10] | rw [if_neg h10] | rw [rRV_n2] | rw [rRA_n] | rw [if_pos (rfl : (0 : Int32) = 0)] | rw [if_neg (show ¬ (-2 : Int32) = 0 by decide)] | rw [if_neg (show ¬ (-3 : Int32) = 0 by decide)] | rw [if_neg (show ¬ true = false by decide)] | rw [if_pos (show false = false from rfl)] | dsimp only)); first | done | rfl) | rfl
      exact W.iret (v := (-1)) hx hb hr (fun t ht hW => ⟨⟨_, (), rfl, by first | ((try unfold rWRun); (repeat (first | rw [if_pos g5] | rw [if_neg g5] | rw [if_pos h5] | rw [if_neg h5] | rw [if_pos g10] | rw [if_neg g10] | rw [if_pos h10] | rw [if_neg h10] | rw [rRV_n2] | rw [rRA_n] | rw [if_pos (rfl : (0 : Int32) = 0)] | rw [if_neg (show ¬ (-2 : Int32) = 0 by decide)] | rw [if_neg (show ¬ (-3 : Int32) = 0 by decide)] | rw [if_neg (show ¬ true = false by decide)] | rw [if_pos (show false = false from rfl)] | dsimp only)); first | done | rfl) | rfl, by show va_P D vwCl (wM cA q N S ((rWRun N S x n v z).2)) t.heap; rw [ht, e2]; exact hP⟩, hS.F ht⟩) hS.2.2 d_M_writeRun_31
    · have h10 := Int32.not_lt.mp g10
      refine lv_iload_n hx hb d_M_writeRun_13 rfl (lv_at hl 2 rfl) ?_
      refine lv_aload_n hx hb d_M_writeRun_14 rfl (lv_at hl 0 rfl) ?_
      refine va_get (D := D) (ci := 4) (v := .int (nI S)) (C := R_M) (T := T_M) (N := 16) hx hb hts (in_M) hown hK hP 0 rfl rfl 1 (by decide) (hts _ m_f_M_29) (fun _ h9 => h9) rfl d_M_writeRun_15 ?_
      refine lv_aload_n hx hb d_M_writeRun_18 rfl (lv_at hl 0 rfl) ?_
      refine va_get (D := D) (ci := 4) (v := .int (nI N)) (C := R_M) (T := T_M) (N := 16) hx hb hts (in_M) hown hK hP 0 rfl rfl 0 (by decide) (hts _ m_f_M_26) (fun _ h9 => h9) rfl d_M_writeRun_19 ?_
      refine lv_iconst (v := 2) hx hb d_M_writeRun_22 (by decide) ?_
      refine lv_isub hx hb d_M_writeRun_23 ?_
      refine k_top (nI (N - 2)) (pk_sub (a := N) (b := 2) (by omega)) ?_
      refine lv_imul hx hb d_M_writeRun_24 ?_
      refine k_top (nI (S * (N - 2))) (pk_mul S (N - 2)) ?_
      refine lv_iload_n hx hb d_M_writeRun_25 rfl (lv_at hl 1 rfl) ?_
      refine lv_isub hx hb d_M_writeRun_26 ?_
      refine k_top (nI (S * (N - 2) - (tn x))) (pk_sub (a := S * (N - 2)) (b := tn x) (by omega)) ?_
      refine lv_icmp_le (tgt := 32) hx hb d_M_writeRun_27 rfl (fun g27 => ?_) (fun g27 => ?_)
      · have h27 := Int32.not_lt.mpr g27
        obtain ⟨hn1, hn2, hn3⟩ := wr_n (by omega) g10 g27
        have hl : lv_has ls 9 [(0, .ref (q 0)), (1, .int (nI (tn x))), (2, .int (nI (tn n))), (3, .int v)] := by rw [← hn3]; exact hl
        refine lv_aload_n hx hb d_M_writeRun_32 rfl (lv_at hl 0 rfl) ?_
        refine va_get (D := D) (ci := 4) (v := .int (rDn z)) (C := R_M) (T := T_M) (N := 16) hx hb hts (in_M) hown hK hP 0 rfl rfl 3 (by decide) (hts _ m_f_M_73) (fun _ h9 => h9) rfl d_M_writeRun_33 ?_
        refine lv_if_ne (tgt := 46) hx hb d_M_writeRun_36 rfl (fun g36 => ?_) (fun g36 => ?_)
        · refine lv_aload_n hx hb d_M_writeRun_46 rfl (lv_at hl 0 rfl) ?_
          refine va_get (D := D) (ci := 4) (v := .int (rDn z)) (C := R_M) (T := T_M) (N := 16) hx hb hts (in_M) hown hK hP 0 rfl rfl 3 (by decide) (hts _ m_f_M_73) (fun _ h9 => h9) rfl d_M_writeRun_47 ?_
          refine lv_if_eq (tgt := 58) hx hb d_M_writeRun_50 rfl (fun g50 => ?_) (fun g50 => ?_)
          · exact absurd g50 g36
          · have hrf : rRef N S z = -2 := by unfold rRef; rw [if_neg g50]
            refine lv_bipush (v := (-2)) hx hb d_M_writeRun_53 (by decide) ?_
            refine lv_goto hx hb d_M_writeRun_55 rfl ?_
            have e3 : (rWRun N S x n v z).2 = z := by first | ((try unfold rWRun); (repeat (first | rw [if_pos g5] | rw [if_neg g5] | rw [if_pos h5] | rw [if_neg h5] | rw [if_pos g10] | rw [if_neg g10] | rw [if_pos h10] | rw [if_neg h10] | rw [if_pos g27] | rw [if_neg g27] | rw [if_pos h27] | rw [if_neg h27] | rw [if_pos g36] | rw [if_neg g36] | rw [if_pos g50] | rw [if_neg g50] | rw [hrf] | rw [rRV_n2] | rw [rRA_n] | rw [if_pos (rfl : (0 : Int32) = 0)] | rw [if_neg (show ¬ (-2 : Int32) = 0 by decide)] | rw [if_neg (show ¬ (-3 : Int32) = 0 by decide)] | rw [if_neg (show ¬ true = false by decide)] | rw [if_pos (show false = false from rfl)] | dsimp only)); first | done | rfl) | rfl
            exact W.iret (v := (-2)) hx hb hr (fun t ht hW => ⟨⟨_, (), rfl, by first | ((try unfold rWRun); (repeat (first | rw [if_pos g5] | rw [if_neg g5] | rw [if_pos h5] | rw [if_neg h5] | rw [if_pos g10] | rw [if_neg g10] | rw [if_pos h10] | rw [if_neg h10] | rw [if_pos g27] | rw [if_neg g27] | rw [if_pos h27] | rw [if_neg h27] | rw [if_pos g36] | rw [if_neg g36] | rw [if_pos g50] | rw [if_neg g50] | rw [hrf] | rw [rRV_n2] | rw [rRA_n] | rw [if_pos (rfl : (0 : Int32) = 0)] | rw [if_neg (show ¬ (-2 : Int32) = 0 by decide)] | rw [if_neg (show ¬ (-3 : Int32) = 0 by decide)] | rw [if_neg (show ¬ true = false by decide)] | rw [if_pos (show false = false from rfl)] | dsimp only)); first | done | rfl) | rfl, by show va_P D vwCl (wM cA q N S ((rWRun N S x n v z).2)) t.heap; rw [ht, e3]; exact hP⟩, hS.F ht⟩) hS.2.2 d_M_writeRun_60
        · refine lv_aload_n hx hb d_M_writeRun_39 rfl (lv_at hl 0 rfl) ?_
          refine k_roi (va_runV (C := R_M) (As := []) (rest := []) ⟨hx, hb, hml, hown, hts⟩ (c_Model_broken l D cA q N S z (by omega) (by omega) (by omega) (by omega)) (k_cwV 0 hts m_code_M_broken m_ini_M m_l_M_102 m_inst_M_broken m_sel_M_broken h_M_broken rfl rfl ⟨Nat.le_of_ble_eq_true rfl, Nat.le_of_ble_eq_true rfl⟩) (k_pR hP hK [0, 1, 2, 3, 4] rfl 0 4 rfl rfl) rfl rfl hl.1 rfl (lv_room (Nat.le_of_ble_eq_true rfl)) d_M_writeRun_40 ⟨Nat.zero_le _, Nat.zero_le _⟩) ?_
          refine lv_if_eq (tgt := 61) hx hb d_M_writeRun_43 rfl (fun g43 => ?_) (fun g43 => ?_)
          · have h43 := of_decide_eq_false (bi_z.mp g43)
            have hrf : rRef N S z = 0 := by unfold rRef; rw [if_pos g36, if_neg h43]
            refine lv_aload_n hx hb d_M_writeRun_61 rfl (lv_at hl 0 rfl) ?_
            refine lv_iconst (v := 0) hx hb d_M_writeRun_62 (by decide) ?_
            refine va_put (D := D) (ci := 4) (v := .int 0) (ty := .int) (C := R_M) (T := T_M) (N := 16) hx hb hts (in_M) ty_M tyok_M nm_M hown hK hP hD hS 0 rfl rfl 6 (by decide) (hts _ m_f_M_76) (fun _ h9 => h9) rfl (by decide +kernel) rfl rfl (Nat.le_of_ble_eq_true rfl) d_M_writeRun_63 (fun H locs hP hD hS => ?_)
            have hP : va_P D vwCl (wM cA q N S (tMd z 0)) H := hP
            have hD : va_D (k_A (wM cA q N S z)) (wM cA q N S (tMd z 0)) := wM_D hDD
            refine lv_iload_n hx hb d_M_writeRun_66 rfl (lv_at hl 1 rfl) ?_
            refine lv_iload_n hx hb d_M_writeRun_67 rfl (lv_at hl 2 rfl) ?_
            refine lv_iadd hx hb d_M_writeRun_68 ?_
            refine k_top (nI (tn x + (tn n))) (nI_add (tn x) (tn n)) ?_
            refine lv_istore (lv' := [(4, .int (nI (tn x + (tn n)))), (0, .ref (q 0)), (1, .int (nI (tn x))), (2, .int (nI (tn n))), (3, .int v)]) hx hb d_M_writeRun_69 hl (by decide) rfl (fun ls hl => ?_)
            refine lv_iconst (v := 0) hx hb d_M_writeRun_71 (by decide) ?_
            refine lv_istore (lv' := [(5, .int 0), (4, .int (nI (tn x + (tn n)))), (0, .ref (q 0)), (1, .int (nI (tn x))), (2, .int (nI (tn n))), (3, .int v)]) hx hb d_M_writeRun_72 hl (by decide) rfl (fun ls hl => ?_)
            have L74 : ∀ (k : Nat) (i : Nat) (zi : RS) (ls : Array Slot) (H : Heap) (locs : List Loc), i + k = S → rRunL N S (tn x) (tn n) v S 0 (tMd z 0) = rRunL N S (tn x) (tn n) v k i zi → lv_has ls 9 [(0, .ref (q 0)), (1, .int (nI (tn x))), (2, .int (nI (tn n))), (3, .int v), (4, .int (nI (tn x + tn n))), (5, .int (nI i))] → va_P D vwCl (wM cA q N S zi) H → va_S (k_A (wM cA q N S z)) s.heap H locs → W p l e (headSpec w_M_writeRun ({ frames := 5, cells := 0, slots := 0, locals := 128 })).room s m ([.ref (q 0), .int x, .int n, .int v] : List Value).toArray below meth c H locs 0 0 (MQ below (va_Qi (fun (r : Int32) (_ : Unit) => r = (rWRun N S x n v z).1) (fun _ t => va_P D vwCl (wM cA q N S ((rWRun N S x n v z).2)) t.heap) (k_A (wM cA q N S z))) ([.ref (q 0), .int x, .int n, .int v] : List Value).toArray s 0 0 (k_A (wM cA q N S z))) (F0 m 74 ls []) := by
              intro k
              induction k with
              | zero =>
                intro i zi ls H locs hk hr0 hl hP hS
                have hD : va_D _ (wM cA q N S zi) := wM_D hDD
                have hr1 : rRunL N S (tn x) (tn n) v S 0 (tMd z 0) = (true, zi) := hr0
                refine lv_iload hx hb d_M_writeRun_74 (lv_at hl 5 rfl) ?_
                refine lv_aload_n hx hb d_M_writeRun_76 rfl (lv_at hl 0 rfl) ?_
                refine va_get (D := D) (ci := 4) (v := .int (nI S)) (C := R_M) (T := T_M) (N := 16) hx hb hts (in_M) hown hK hP 0 rfl rfl 1 (by decide) (hts _ m_f_M_29) (fun _ h9 => h9) rfl d_M_writeRun_77 ?_
                refine lv_icmp_ge (tgt := 178) hx hb d_M_writeRun_80 rfl (fun g80 => ?_) (fun g80 => ?_)
                · have h80 : S ≤ i := (nI_leI (a := S) (b := i) (by omega) (by omega)).mp g80
                  have k80 : ¬ i < S := by omega
                  refine lv_aload_n hx hb d_M_writeRun_178 rfl (lv_at hl 0 rfl) ?_
                  refine va_get (D := D) (ci := 4) (v := .int (rMd zi)) (C := R_M) (T := T_M) (N := 16) hx hb hts (in_M) hown hK hP 0 rfl rfl 6 (by decide) (hts _ m_f_M_76) (fun _ h9 => h9) rfl d_M_writeRun_179 ?_
                  have e4 : (rWRun N S x n v z).2 = zi := by first | ((try unfold rWRun); (repeat (first | rw [if_pos g5] | rw [if_neg g5] | rw [if_pos h5] | rw [if_neg h5] | rw [if_pos g10] | rw [if_neg g10] | rw [if_pos h10] | rw [if_neg h10] | rw [if_pos g27] | rw [if_neg g27] | rw [if_pos h27] | rw [if_neg h27] | rw [if_pos g36] | rw [if_neg g36] | rw [if_pos g43] | rw [if_neg g43] | rw [if_pos h43] | rw [if_neg h43] | rw [hrf] | rw [hr1] | rw [if_pos g80] | rw [if_neg g80] | rw [if_pos h80] | rw [if_neg h80] | rw [if_pos k80] | rw [if_neg k80] | rw [rRV_n2] | rw [rRA_n] | rw [if_pos (rfl : (0 : Int32) = 0)] | rw [if_neg (show ¬ (-2 : Int32) = 0 by decide)] | rw [if_neg (show ¬ (-3 : Int32) = 0 by decide)] | rw [if_neg (show ¬ true = false by decide)] | rw [if_pos (show false = false from rfl)] | dsimp only)); first | done | rfl) | rfl
                  exact W.iret (v := rMd zi) hx hb hr (fun t ht hW => ⟨⟨_, (), rfl, by first | ((try unfold rWRun); (repeat (first | rw [if_pos g5] | rw [if_neg g5] | rw [if_pos h5] | rw [if_neg h5] | rw [if_pos g10] | rw [if_neg g10] | rw [if_pos h10] | rw [if_neg h10] | rw [if_pos g27] | rw [if_neg g27] | rw [if_pos h27] | rw [if_neg h27] | rw [if_pos g36] | rw [if_neg g36] | rw [if_pos g43] | rw [if_neg g43] | rw [if_pos h43] | rw [if_neg h43] | rw [hrf] | rw [hr1] | rw [if_pos g80] | rw [if_neg g80] | rw [if_pos h80] | rw [if_neg h80] | rw [if_pos k80] | rw [if_neg k80] | rw [rRV_n2] | rw [rRA_n] | rw [if_pos (rfl : (0 : Int32) = 0)] | rw [if_neg (show ¬ (-2 : Int32) = 0 by decide)] | rw [if_neg (show ¬ (-3 : Int32) = 0 by decide)] | rw [if_neg (show ¬ true = false by decide)] | rw [if_pos (show false = false from rfl)] | dsimp only)); first | done | rfl) | rfl, by show va_P D vwCl (wM cA q N S ((rWRun N S x n v z).2)) t.heap; rw [ht, e4]; exact hP⟩, hS.F ht⟩) hS.2.2 d_M_writeRun_182
                · have h80 : ¬ S ≤ i := fun q9 => g80 ((nI_leI (a := S) (b := i) (by omega) (by omega)).mpr q9)
                  have k80 : i < S := by omega
                  exfalso; omega
              | succ k ih =>
                intro i zi ls H locs hk hr0 hl hP hS
                have hD : va_D _ (wM cA q N S zi) := wM_D hDD
                refine lv_iload hx hb d_M_writeRun_74 (lv_at hl 5 rfl) ?_
                refine lv_aload_n hx hb d_M_writeRun_76 rfl (lv_at hl 0 rfl) ?_
                refine va_get (D := D) (ci := 4) (v := .int (nI S)) (C := R_M) (T := T_M) (N := 16) hx hb hts (in_M) hown hK hP 0 rfl rfl 1 (by decide) (hts _ m_f_M_29) (fun _ h9 => h9) rfl d_M_writeRun_77 ?_
                refine lv_icmp_ge (tgt := 178) hx hb d_M_writeRun_80 rfl (fun g80 => ?_) (fun g80 => ?_)
                · have h80 : S ≤ i := (nI_leI (a := S) (b := i) (by omega) (by omega)).mp g80
                  have k80 : ¬ i < S := by omega
                  exfalso; omega
                · have h80 : ¬ S ≤ i := fun q9 => g80 ((nI_leI (a := S) (b := i) (by omega) (by omega)).mpr q9)
                  have k80 : i < S := by omega
                  have hi2 : i * (N - 2) ≤ S * (N - 2) := Nat.mul_le_mul_right _ (by omega)
                  refine lv_iload hx hb d_M_writeRun_83 (lv_at hl 5 rfl) ?_
                  refine lv_aload_n hx hb d_M_writeRun_85 rfl (lv_at hl 0 rfl) ?_
                  refine va_get (D := D) (ci := 4) (v := .int (nI N)) (C := R_M) (T := T_M) (N := 16) hx hb hts (in_M) hown hK hP 0 rfl rfl 0 (by decide) (hts _ m_f_M_26) (fun _ h9 => h9) rfl d_M_writeRun_86 ?_
                  refine lv_iconst (v := 2) hx hb d_M_writeRun_89 (by decide) ?_
                  refine lv_isub hx hb d_M_writeRun_90 ?_
                  refine k_top (nI (N - 2)) (pk_sub (a := N) (b := 2) (by omega)) ?_
                  refine lv_imul hx hb d_M_writeRun_91 ?_
                  refine k_top (nI (i * (N - 2))) (pk_mul i (N - 2)) ?_
                  refine lv_istore (lv' := [(6, .int (nI (i * (N - 2)))), (0, .ref (q 0)), (1, .int (nI (tn x))), (2, .int (nI (tn n))), (3, .int v), (4, .int (nI (tn x + tn n))), (5, .int (nI i))]) hx hb d_M_writeRun_92 hl (by decide) rfl (fun ls hl => ?_)
                  refine lv_iload_n hx hb d_M_writeRun_94 rfl (lv_at hl 2 rfl) ?_
                  refine lv_iload hx hb d_M_writeRun_95 (lv_at hl 0 rfl) ?_
                  refine lv_icmp_le (tgt := 107) hx hb d_M_writeRun_97 rfl (fun g97 => ?_) (fun g97 => ?_)
                  · have h97 : (tn x) ≤ (i * (N - 2)) := (nI_leI (a := tn x) (b := i * (N - 2)) (by omega) (by omega)).mp g97
                    have k97 : ¬ (i * (N - 2)) < (tn x) := by omega
                    refine lv_iconst (v := 0) hx hb d_M_writeRun_107 (by decide) ?_
                    refine k_top (nI (tn x - i * (N - 2))) (by rw [show tn x - i * (N - 2) = 0 by omega]; rfl) ?_
                    refine lv_istore (lv' := [(7, .int (nI (tn x - i * (N - 2)))), (6, .int (nI (i * (N - 2)))), (0, .ref (q 0)), (1, .int (nI (tn x))), (2, .int (nI (tn n))), (3, .int v), (4, .int (nI (tn x + tn n))), (5, .int (nI i))]) hx hb d_M_writeRun_108 hl (by decide) rfl (fun ls hl => ?_)
                    refine lv_iload hx hb d_M_writeRun_110 (lv_at hl 6 rfl) ?_
                    refine lv_iload hx hb d_M_writeRun_112 (lv_at hl 1 rfl) ?_
                    refine lv_aload_n hx hb d_M_writeRun_114 rfl (lv_at hl 2 rfl) ?_
                    refine va_get (D := D) (ci := 4) (v := .int (nI N)) (C := R_M) (T := T_M) (N := 16) hx hb hts (in_M) hown hK hP 0 rfl rfl 0 (by decide) (hts _ m_f_M_26) (fun _ h9 => h9) rfl d_M_writeRun_115 ?_
                    refine lv_iadd hx hb d_M_writeRun_118 ?_
                    refine k_top (nI (i * (N - 2) + N)) (nI_add (i * (N - 2)) N) ?_
                    refine lv_iconst (v := 2) hx hb d_M_writeRun_119 (by decide) ?_
                    refine lv_isub hx hb d_M_writeRun_120 ?_
                    refine k_top (nI (i * (N - 2) + N - 2)) (pk_sub (a := i * (N - 2) + N) (b := 2) (by omega)) ?_
                    refine lv_icmp_ge (tgt := 132) hx hb d_M_writeRun_121 rfl (fun g121 => ?_) (fun g121 => ?_)
                    · have h121 : (i * (N - 2) + N - 2) ≤ (tn x + tn n) := (nI_leI (a := i * (N - 2) + N - 2) (b := tn x + tn n) (by omega) (by omega)).mp g121
                      have k121 : ¬ (tn x + tn n) < (i * (N - 2) + N - 2) := by omega
                      refine lv_aload_n hx hb d_M_writeRun_132 rfl (lv_at hl 2 rfl) ?_
                      refine va_get (D := D) (ci := 4) (v := .int (nI N)) (C := R_M) (T := T_M) (N := 16) hx hb hts (in_M) hown hK hP 0 rfl rfl 0 (by decide) (hts _ m_f_M_26) (fun _ h9 => h9) rfl d_M_writeRun_133 ?_
                      refine lv_iconst (v := 2) hx hb d_M_writeRun_136 (by decide) ?_
                      refine lv_isub hx hb d_M_writeRun_137 ?_
                      refine k_top (nI (N - 2)) (pk_sub (a := N) (b := 2) (by omega)) ?_
                      refine k_top (rLst N (tn x) (tn n) i) (by unfold rLst; rw [if_neg (by omega)]) ?_
                      refine lv_istore (lv' := [(8, .int (rLst N (tn x) (tn n) i)), (7, .int (nI (tn x - i * (N - 2)))), (6, .int (nI (i * (N - 2)))), (0, .ref (q 0)), (1, .int (nI (tn x))), (2, .int (nI (tn n))), (3, .int v), (4, .int (nI (tn x + tn n))), (5, .int (nI i))]) hx hb d_M_writeRun_138 hl (by decide) rfl (fun ls hl => ?_)
                      refine lv_iload hx hb d_M_writeRun_140 (lv_at hl 1 rfl) ?_
                      refine lv_iload hx hb d_M_writeRun_142 (lv_at hl 0 rfl) ?_
                      refine lv_icmp_ge (tgt := 172) hx hb d_M_writeRun_144 rfl (fun g144 => ?_) (fun g144 => ?_)
                      · have h144 := Int32.not_lt.mpr g144
                        refine lv_iinc (k := 8) (v := nI (i + 1)) (lv' := [(5, .int (nI (i + 1))), (8, .int (rLst N (tn x) (tn n) i)), (7, .int (nI (tn x - i * (N - 2)))), (6, .int (nI (i * (N - 2)))), (0, .ref (q 0)), (1, .int (nI (tn x))), (2, .int (nI (tn n))), (3, .int v), (4, .int (nI (tn x + tn n)))]) hx hb d_M_writeRun_172 hl rfl (nI_add i 1) (by decide) rfl (fun ls hl => ?_)
                        refine lv_goto hx hb d_M_writeRun_175 rfl ?_
                        exact ih (i + 1) zi ls H locs (by omega) (by first | exact hr0.trans (rRunL_n h144) | exact hr0.trans (rRunL_f h144 h166) | rfl) (lv_sub hl [4, 5, 6, 7, 8, 0] rfl) hP hS
                      · have h144 := Int32.not_le.mp g144
                        obtain ⟨hl5, hl6, hl7⟩ := rl_tn gN4 gN (by omega) (by omega) h144
                        have hl : lv_has ls 9 [(8, .int (nI (tn (rLst N (tn x) (tn n) i)))), (7, .int (nI (tn x - i * (N - 2)))), (6, .int (nI (i * (N - 2)))), (0, .ref (q 0)), (1, .int (nI (tn x))), (2, .int (nI (tn n))), (3, .int v), (4, .int (nI (tn x + tn n))), (5, .int (nI i))] := by rw [← hl7]; exact hl
                        refine lv_aload_n hx hb d_M_writeRun_147 rfl (lv_at hl 3 rfl) ?_
                        refine lv_iload hx hb d_M_writeRun_148 (lv_at hl 8 rfl) ?_
                        refine lv_iload hx hb d_M_writeRun_150 (lv_at hl 1 rfl) ?_
                        refine lv_iload hx hb d_M_writeRun_152 (lv_at hl 0 rfl) ?_
                        refine lv_iload_n hx hb d_M_writeRun_154 rfl (lv_at hl 6 rfl) ?_
                        refine lv_iload hx hb d_M_writeRun_155 (lv_at hl 2 rfl) ?_
                        refine lv_iload hx hb d_M_writeRun_157 (lv_at hl 1 rfl) ?_
                        refine lv_iadd hx hb d_M_writeRun_159 ?_
                        refine k_top (nI (i * (N - 2) + (tn x - i * (N - 2)))) (nI_add (i * (N - 2)) (tn x - i * (N - 2))) ?_
                        refine lv_iload_n hx hb d_M_writeRun_160 rfl (lv_at hl 4 rfl) ?_
                        refine lv_isub hx hb d_M_writeRun_161 ?_
                        refine k_top (nI (i * (N - 2) + (tn x - i * (N - 2)) - (tn x))) (pk_sub (a := i * (N - 2) + (tn x - i * (N - 2))) (b := tn x) (by omega)) ?_
                        refine lv_iadd hx hb d_M_writeRun_162 ?_
                        refine k_wri (va_runV (C := R_M) (As := [.int (nI i), .int (nI (tn x - i * (N - 2))), .int (nI (tn (rLst N (tn x) (tn n) i))), .int (v + (nI (i * (N - 2) + (tn x - i * (N - 2)) - (tn x))))]) (rest := []) ⟨hx, hb, hml, hown, hts⟩ (c_Model_writeStripe l D cA q N S zi (by omega) (by omega) (by omega) (by omega) i (tn x - i * (N - 2)) (tn (rLst N (tn x) (tn n) i)) (v + (nI (i * (N - 2) + (tn x - i * (N - 2)) - (tn x)))) (by omega) (by omega) (by omega)) (k_cwV 4 hts m_code_M_writeStripe m_ini_M m_l_M_126 m_inst_M_writeStripe m_sel_M_writeStripe h_M_writeStripe rfl rfl ⟨Nat.le_of_ble_eq_true rfl, Nat.le_of_ble_eq_true rfl⟩) (k_pW hP hK hD [0, 1, 2, 3, 4] (by decide) rfl 0 4 rfl rfl) rfl rfl hl.1 rfl (lv_room (Nat.le_of_ble_eq_true rfl)) d_M_writeRun_163 ⟨Nat.zero_le _, Nat.zero_le _⟩) hS hD [0, 1, 2, 3, 4] rfl (fun r u H1 locs hp hk hP1 hS => ?_)
                        subst hp
                        obtain ⟨u5, hu5⟩ : ∃ w, w = (rWS N i (tn x - i * (N - 2)) (tn (rLst N (tn x) (tn n) i)) (v + (nI (i * (N - 2) + (tn x - i * (N - 2)) - (tn x)))) zi).2 := ⟨_, rfl⟩
                        have hP : va_P D vwCl (wM cA q N S u5) H1 := by rw [hu5]; exact hP1
                        have hD : va_D (k_A (wM cA q N S z)) (wM cA q N S u5) := wM_D hDD
                        generalize H1 = H at hP hS ⊢
                        refine lv_if_ne (tgt := 172) hx hb d_M_writeRun_166 rfl (fun g166 => ?_) (fun g166 => ?_)
                        · have h166 := bi_nz.mp g166
                          refine lv_iinc (k := 8) (v := nI (i + 1)) (lv' := [(5, .int (nI (i + 1))), (8, .int (nI (tn (rLst N (tn x) (tn n) i)))), (7, .int (nI (tn x - i * (N - 2)))), (6, .int (nI (i * (N - 2)))), (0, .ref (q 0)), (1, .int (nI (tn x))), (2, .int (nI (tn n))), (3, .int v), (4, .int (nI (tn x + tn n)))]) hx hb d_M_writeRun_172 hl rfl (nI_add i 1) (by decide) rfl (fun ls hl => ?_)
                          refine lv_goto hx hb d_M_writeRun_175 rfl ?_
                          exact ih (i + 1) u5 ls H locs (by omega) (by subst hu5; first | exact hr0.trans (rRunL_n h144) | exact hr0.trans (rRunL_f h144 h166) | rfl) (lv_sub hl [4, 5, 6, 7, 8, 0] rfl) hP hS
                        · have h166 := bi_z.mp g166
                          have hr1 := hr0.trans (rRunL_t h144 h166)
                          refine lv_bipush (v := (-4)) hx hb d_M_writeRun_169 (by decide) ?_
                          have e6 : (rWRun N S x n v z).2 = u5 := by subst hu5; first | ((try unfold rWRun); (repeat (first | rw [if_pos g5] | rw [if_neg g5] | rw [if_pos h5] | rw [if_neg h5] | rw [if_pos g10] | rw [if_neg g10] | rw [if_pos h10] | rw [if_neg h10] | rw [if_pos g27] | rw [if_neg g27] | rw [if_pos h27] | rw [if_neg h27] | rw [if_pos g36] | rw [if_neg g36] | rw [if_pos g43] | rw [if_neg g43] | rw [if_pos h43] | rw [if_neg h43] | rw [hrf] | rw [if_pos g80] | rw [if_neg g80] | rw [if_pos h80] | rw [if_neg h80] | rw [if_pos k80] | rw [if_neg k80] | rw [if_pos g97] | rw [if_neg g97] | rw [if_pos h97] | rw [if_neg h97] | rw [if_pos k97] | rw [if_neg k97] | rw [if_pos g121] | rw [if_neg g121] | rw [if_pos h121] | rw [if_neg h121] | rw [if_pos k121] | rw [if_neg k121] | rw [if_pos g144] | rw [if_neg g144] | rw [if_pos h144] | rw [if_neg h144] | rw [if_pos g166] | rw [if_neg g166] | rw [if_pos h166] | rw [h166] | rw [hr1] | rw [rRV_n2] | rw [rRA_n] | rw [if_pos (rfl : (0 : Int32) = 0)] | rw [if_neg (show ¬ (-2 : Int32) = 0 by decide)] | rw [if_neg (show ¬ (-3 : Int32) = 0 by decide)] | rw [if_neg (show ¬ true = false by decide)] | rw [if_pos (show false = false from rfl)] | dsimp only)); first | done | rfl) | rfl
                          exact W.iret (v := (-4)) hx hb hr (fun t ht hW => ⟨⟨_, (), rfl, by subst hu5; first | ((try unfold rWRun); (repeat (first | rw [if_pos g5] | rw [if_neg g5] | rw [if_pos h5] | rw [if_neg h5] | rw [if_pos g10] | rw [if_neg g10] | rw [if_pos h10] | rw [if_neg h10] | rw [if_pos g27] | rw [if_neg g27] | rw [if_pos h27] | rw [if_neg h27] | rw [if_pos g36] | rw [if_neg g36] | rw [if_pos g43] | rw [if_neg g43] | rw [if_pos h43] | rw [if_neg h43] | rw [hrf] | rw [if_pos g80] | rw [if_neg g80] | rw [if_pos h80] | rw [if_neg h80] | rw [if_pos k80] | rw [if_neg k80] | rw [if_pos g97] | rw [if_neg g97] | rw [if_pos h97] | rw [if_neg h97] | rw [if_pos k97] | rw [if_neg k97] | rw [if_pos g121] | rw [if_neg g121] | rw [if_pos h121] | rw [if_neg h121] | rw [if_pos k121] | rw [if_neg k121] | rw [if_pos g144] | rw [if_neg g144] | rw [if_pos h144] | rw [if_neg h144] | rw [if_pos g166] | rw [if_neg g166] | rw [if_pos h166] | rw [h166] | rw [hr1] | rw [rRV_n2] | rw [rRA_n] | rw [if_pos (rfl : (0 : Int32) = 0)] | rw [if_neg (show ¬ (-2 : Int32) = 0 by decide)] | rw [if_neg (show ¬ (-3 : Int32) = 0 by decide)] | rw [if_neg (show ¬ true = false by decide)] | rw [if_pos (show false = false from rfl)] | dsimp only)); first | done | rfl) | rfl, by show va_P D vwCl (wM cA q N S ((rWRun N S x n v z).2)) t.heap; rw [ht, e6]; exact hP⟩, hS.F ht⟩) hS.2.2 d_M_writeRun_171
                    · have h121 : ¬ (i * (N - 2) + N - 2) ≤ (tn x + tn n) := fun q9 => g121 ((nI_leI (a := i * (N - 2) + N - 2) (b := tn x + tn n) (by omega) (by omega)).mpr q9)
                      have k121 : (tn x + tn n) < (i * (N - 2) + N - 2) := by omega
                      refine lv_iload hx hb d_M_writeRun_124 (lv_at hl 6 rfl) ?_
                      refine lv_iload hx hb d_M_writeRun_126 (lv_at hl 1 rfl) ?_
                      refine lv_isub hx hb d_M_writeRun_128 ?_
                      refine k_top (rLst N (tn x) (tn n) i) (by unfold rLst; rw [if_pos (by omega)]) ?_
                      refine lv_goto hx hb d_M_writeRun_129 rfl ?_
                      refine lv_istore (lv' := [(8, .int (rLst N (tn x) (tn n) i)), (7, .int (nI (tn x - i * (N - 2)))), (6, .int (nI (i * (N - 2)))), (0, .ref (q 0)), (1, .int (nI (tn x))), (2, .int (nI (tn n))), (3, .int v), (4, .int (nI (tn x + tn n))), (5, .int (nI i))]) hx hb d_M_writeRun_138 hl (by decide) rfl (fun ls hl => ?_)
                      refine lv_iload hx hb d_M_writeRun_140 (lv_at hl 1 rfl) ?_
                      refine lv_iload hx hb d_M_writeRun_142 (lv_at hl 0 rfl) ?_
                      refine lv_icmp_ge (tgt := 172) hx hb d_M_writeRun_144 rfl (fun g144 => ?_) (fun g144 => ?_)
                      · have h144 := Int32.not_lt.mpr g144
                        refine lv_iinc (k := 8) (v := nI (i + 1)) (lv' := [(5, .int (nI (i + 1))), (8, .int (rLst N (tn x) (tn n) i)), (7, .int (nI (tn x - i * (N - 2)))), (6, .int (nI (i * (N - 2)))), (0, .ref (q 0)), (1, .int (nI (tn x))), (2, .int (nI (tn n))), (3, .int v), (4, .int (nI (tn x + tn n)))]) hx hb d_M_writeRun_172 hl rfl (nI_add i 1) (by decide) rfl (fun ls hl => ?_)
                        refine lv_goto hx hb d_M_writeRun_175 rfl ?_
                        exact ih (i + 1) zi ls H locs (by omega) (by first | exact hr0.trans (rRunL_n h144) | exact hr0.trans (rRunL_f h144 h166) | rfl) (lv_sub hl [4, 5, 6, 7, 8, 0] rfl) hP hS
                      · have h144 := Int32.not_le.mp g144
                        obtain ⟨hl5, hl6, hl7⟩ := rl_tn gN4 gN (by omega) (by omega) h144
                        have hl : lv_has ls 9 [(8, .int (nI (tn (rLst N (tn x) (tn n) i)))), (7, .int (nI (tn x - i * (N - 2)))), (6, .int (nI (i * (N - 2)))), (0, .ref (q 0)), (1, .int (nI (tn x))), (2, .int (nI (tn n))), (3, .int v), (4, .int (nI (tn x + tn n))), (5, .int (nI i))] := by rw [← hl7]; exact hl
                        refine lv_aload_n hx hb d_M_writeRun_147 rfl (lv_at hl 3 rfl) ?_
                        refine lv_iload hx hb d_M_writeRun_148 (lv_at hl 8 rfl) ?_
                        refine lv_iload hx hb d_M_writeRun_150 (lv_at hl 1 rfl) ?_
                        refine lv_iload hx hb d_M_writeRun_152 (lv_at hl 0 rfl) ?_
                        refine lv_iload_n hx hb d_M_writeRun_154 rfl (lv_at hl 6 rfl) ?_
                        refine lv_iload hx hb d_M_writeRun_155 (lv_at hl 2 rfl) ?_
                        refine lv_iload hx hb d_M_writeRun_157 (lv_at hl 1 rfl) ?_
                        refine lv_iadd hx hb d_M_writeRun_159 ?_
                        refine k_top (nI (i * (N - 2) + (tn x - i * (N - 2)))) (nI_add (i * (N - 2)) (tn x - i * (N - 2))) ?_
                        refine lv_iload_n hx hb d_M_writeRun_160 rfl (lv_at hl 4 rfl) ?_
                        refine lv_isub hx hb d_M_writeRun_161 ?_
                        refine k_top (nI (i * (N - 2) + (tn x - i * (N - 2)) - (tn x))) (pk_sub (a := i * (N - 2) + (tn x - i * (N - 2))) (b := tn x) (by omega)) ?_
                        refine lv_iadd hx hb d_M_writeRun_162 ?_
                        refine k_wri (va_runV (C := R_M) (As := [.int (nI i), .int (nI (tn x - i * (N - 2))), .int (nI (tn (rLst N (tn x) (tn n) i))), .int (v + (nI (i * (N - 2) + (tn x - i * (N - 2)) - (tn x))))]) (rest := []) ⟨hx, hb, hml, hown, hts⟩ (c_Model_writeStripe l D cA q N S zi (by omega) (by omega) (by omega) (by omega) i (tn x - i * (N - 2)) (tn (rLst N (tn x) (tn n) i)) (v + (nI (i * (N - 2) + (tn x - i * (N - 2)) - (tn x)))) (by omega) (by omega) (by omega)) (k_cwV 4 hts m_code_M_writeStripe m_ini_M m_l_M_126 m_inst_M_writeStripe m_sel_M_writeStripe h_M_writeStripe rfl rfl ⟨Nat.le_of_ble_eq_true rfl, Nat.le_of_ble_eq_true rfl⟩) (k_pW hP hK hD [0, 1, 2, 3, 4] (by decide) rfl 0 4 rfl rfl) rfl rfl hl.1 rfl (lv_room (Nat.le_of_ble_eq_true rfl)) d_M_writeRun_163 ⟨Nat.zero_le _, Nat.zero_le _⟩) hS hD [0, 1, 2, 3, 4] rfl (fun r u H1 locs hp hk hP1 hS => ?_)
                        subst hp
                        obtain ⟨u7, hu7⟩ : ∃ w, w = (rWS N i (tn x - i * (N - 2)) (tn (rLst N (tn x) (tn n) i)) (v + (nI (i * (N - 2) + (tn x - i * (N - 2)) - (tn x)))) zi).2 := ⟨_, rfl⟩
                        have hP : va_P D vwCl (wM cA q N S u7) H1 := by rw [hu7]; exact hP1
                        have hD : va_D (k_A (wM cA q N S z)) (wM cA q N S u7) := wM_D hDD
                        generalize H1 = H at hP hS ⊢
                        refine lv_if_ne (tgt := 172) hx hb d_M_writeRun_166 rfl (fun g166 => ?_) (fun g166 => ?_)
                        · have h166 := bi_nz.mp g166
                          refine lv_iinc (k := 8) (v := nI (i + 1)) (lv' := [(5, .int (nI (i + 1))), (8, .int (nI (tn (rLst N (tn x) (tn n) i)))), (7, .int (nI (tn x - i * (N - 2)))), (6, .int (nI (i * (N - 2)))), (0, .ref (q 0)), (1, .int (nI (tn x))), (2, .int (nI (tn n))), (3, .int v), (4, .int (nI (tn x + tn n)))]) hx hb d_M_writeRun_172 hl rfl (nI_add i 1) (by decide) rfl (fun ls hl => ?_)
                          refine lv_goto hx hb d_M_writeRun_175 rfl ?_
                          exact ih (i + 1) u7 ls H locs (by omega) (by subst hu7; first | exact hr0.trans (rRunL_n h144) | exact hr0.trans (rRunL_f h144 h166) | rfl) (lv_sub hl [4, 5, 6, 7, 8, 0] rfl) hP hS
                        · have h166 := bi_z.mp g166
                          have hr1 := hr0.trans (rRunL_t h144 h166)
                          refine lv_bipush (v := (-4)) hx hb d_M_writeRun_169 (by decide) ?_
                          have e8 : (rWRun N S x n v z).2 = u7 := by subst hu7; first | ((try unfold rWRun); (repeat (first | rw [if_pos g5] | rw [if_neg g5] | rw [if_pos h5] | rw [if_neg h5] | rw [if_pos g10] | rw [if_neg g10] | rw [if_pos h10] | rw [if_neg h10] | rw [if_pos g27] | rw [if_neg g27] | rw [if_pos h27] | rw [if_neg h27] | rw [if_pos g36] | rw [if_neg g36] | rw [if_pos g43] | rw [if_neg g43] | rw [if_pos h43] | rw [if_neg h43] | rw [hrf] | rw [if_pos g80] | rw [if_neg g80] | rw [if_pos h80] | rw [if_neg h80] | rw [if_pos k80] | rw [if_neg k80] | rw [if_pos g97] | rw [if_neg g97] | rw [if_pos h97] | rw [if_neg h97] | rw [if_pos k97] | rw [if_neg k97] | rw [if_pos g121] | rw [if_neg g121] | rw [if_pos h121] | rw [if_neg h121] | rw [if_pos k121] | rw [if_neg k121] | rw [if_pos g144] | rw [if_neg g144] | rw [if_pos h144] | rw [if_neg h144] | rw [if_pos g166] | rw [if_neg g166] | rw [if_pos h166] | rw [h166] | rw [hr1] | rw [rRV_n2] | rw [rRA_n] | rw [if_pos (rfl : (0 : Int32) = 0)] | rw [if_neg (show ¬ (-2 : Int32) = 0 by decide)] | rw [if_neg (show ¬ (-3 : Int32) = 0 by decide)] | rw [if_neg (show ¬ true = false by decide)] | rw [if_pos (show false = false from rfl)] | dsimp only)); first | done | rfl) | rfl
                          exact W.iret (v := (-4)) hx hb hr (fun t ht hW => ⟨⟨_, (), rfl, by subst hu7; first | ((try unfold rWRun); (repeat (first | rw [if_pos g5] | rw [if_neg g5] | rw [if_pos h5] | rw [if_neg h5] | rw [if_pos g10] | rw [if_neg g10] | rw [if_pos h10] | rw [if_neg h10] | rw [if_pos g27] | rw [if_neg g27] | rw [if_pos h27] | rw [if_neg h27] | rw [if_pos g36] | rw [if_neg g36] | rw [if_pos g43] | rw [if_neg g43] | rw [if_pos h43] | rw [if_neg h43] | rw [hrf] | rw [if_pos g80] | rw [if_neg g80] | rw [if_pos h80] | rw [if_neg h80] | rw [if_pos k80] | rw [if_neg k80] | rw [if_pos g97] | rw [if_neg g97] | rw [if_pos h97] | rw [if_neg h97] | rw [if_pos k97] | rw [if_neg k97] | rw [if_pos g121] | rw [if_neg g121] | rw [if_pos h121] | rw [if_neg h121] | rw [if_pos k121] | rw [if_neg k121] | rw [if_pos g144] | rw [if_neg g144] | rw [if_pos h144] | rw [if_neg h144] | rw [if_pos g166] | rw [if_neg g166] | rw [if_pos h166] | rw [h166] | rw [hr1] | rw [rRV_n2] | rw [rRA_n] | rw [if_pos (rfl : (0 : Int32) = 0)] | rw [if_neg (show ¬ (-2 : Int32) = 0 by decide)] | rw [if_neg (show ¬ (-3 : Int32) = 0 by decide)] | rw [if_neg (show ¬ true = false by decide)] | rw [if_pos (show false = false from rfl)] | dsimp only)); first | done | rfl) | rfl, by show va_P D vwCl (wM cA q N S ((rWRun N S x n v z).2)) t.heap; rw [ht, e8]; exact hP⟩, hS.F ht⟩) hS.2.2 d_M_writeRun_171
                  · have h97 : ¬ (tn x) ≤ (i * (N - 2)) := fun q9 => g97 ((nI_leI (a := tn x) (b := i * (N - 2)) (by omega) (by omega)).mpr q9)
                    have k97 : (i * (N - 2)) < (tn x) := by omega
                    refine lv_iload_n hx hb d_M_writeRun_100 rfl (lv_at hl 2 rfl) ?_
                    refine lv_iload hx hb d_M_writeRun_101 (lv_at hl 0 rfl) ?_
                    refine lv_isub hx hb d_M_writeRun_103 ?_
                    refine k_top (nI (tn x - (i * (N - 2)))) (pk_sub (a := tn x) (b := i * (N - 2)) (by omega)) ?_
                    refine lv_goto hx hb d_M_writeRun_104 rfl ?_
                    refine lv_istore (lv' := [(7, .int (nI (tn x - (i * (N - 2))))), (6, .int (nI (i * (N - 2)))), (0, .ref (q 0)), (1, .int (nI (tn x))), (2, .int (nI (tn n))), (3, .int v), (4, .int (nI (tn x + tn n))), (5, .int (nI i))]) hx hb d_M_writeRun_108 hl (by decide) rfl (fun ls hl => ?_)
                    refine lv_iload hx hb d_M_writeRun_110 (lv_at hl 6 rfl) ?_
                    refine lv_iload hx hb d_M_writeRun_112 (lv_at hl 1 rfl) ?_
                    refine lv_aload_n hx hb d_M_writeRun_114 rfl (lv_at hl 2 rfl) ?_
                    refine va_get (D := D) (ci := 4) (v := .int (nI N)) (C := R_M) (T := T_M) (N := 16) hx hb hts (in_M) hown hK hP 0 rfl rfl 0 (by decide) (hts _ m_f_M_26) (fun _ h9 => h9) rfl d_M_writeRun_115 ?_
                    refine lv_iadd hx hb d_M_writeRun_118 ?_
                    refine k_top (nI (i * (N - 2) + N)) (nI_add (i * (N - 2)) N) ?_
                    refine lv_iconst (v := 2) hx hb d_M_writeRun_119 (by decide) ?_
                    refine lv_isub hx hb d_M_writeRun_120 ?_
                    refine k_top (nI (i * (N - 2) + N - 2)) (pk_sub (a := i * (N - 2) + N) (b := 2) (by omega)) ?_
                    refine lv_icmp_ge (tgt := 132) hx hb d_M_writeRun_121 rfl (fun g121 => ?_) (fun g121 => ?_)
                    · have h121 : (i * (N - 2) + N - 2) ≤ (tn x + tn n) := (nI_leI (a := i * (N - 2) + N - 2) (b := tn x + tn n) (by omega) (by omega)).mp g121
                      have k121 : ¬ (tn x + tn n) < (i * (N - 2) + N - 2) := by omega
                      refine lv_aload_n hx hb d_M_writeRun_132 rfl (lv_at hl 2 rfl) ?_
                      refine va_get (D := D) (ci := 4) (v := .int (nI N)) (C := R_M) (T := T_M) (N := 16) hx hb hts (in_M) hown hK hP 0 rfl rfl 0 (by decide) (hts _ m_f_M_26) (fun _ h9 => h9) rfl d_M_writeRun_133 ?_
                      refine lv_iconst (v := 2) hx hb d_M_writeRun_136 (by decide) ?_
                      refine lv_isub hx hb d_M_writeRun_137 ?_
                      refine k_top (nI (N - 2)) (pk_sub (a := N) (b := 2) (by omega)) ?_
                      refine k_top (rLst N (tn x) (tn n) i) (by unfold rLst; rw [if_neg (by omega)]) ?_
                      refine lv_istore (lv' := [(8, .int (rLst N (tn x) (tn n) i)), (7, .int (nI (tn x - (i * (N - 2))))), (6, .int (nI (i * (N - 2)))), (0, .ref (q 0)), (1, .int (nI (tn x))), (2, .int (nI (tn n))), (3, .int v), (4, .int (nI (tn x + tn n))), (5, .int (nI i))]) hx hb d_M_writeRun_138 hl (by decide) rfl (fun ls hl => ?_)
                      refine lv_iload hx hb d_M_writeRun_140 (lv_at hl 1 rfl) ?_
                      refine lv_iload hx hb d_M_writeRun_142 (lv_at hl 0 rfl) ?_
                      refine lv_icmp_ge (tgt := 172) hx hb d_M_writeRun_144 rfl (fun g144 => ?_) (fun g144 => ?_)
                      · have h144 := Int32.not_lt.mpr g144
                        refine lv_iinc (k := 8) (v := nI (i + 1)) (lv' := [(5, .int (nI (i + 1))), (8, .int (rLst N (tn x) (tn n) i)), (7, .int (nI (tn x - (i * (N - 2))))), (6, .int (nI (i * (N - 2)))), (0, .ref (q 0)), (1, .int (nI (tn x))), (2, .int (nI (tn n))), (3, .int v), (4, .int (nI (tn x + tn n)))]) hx hb d_M_writeRun_172 hl rfl (nI_add i 1) (by decide) rfl (fun ls hl => ?_)
                        refine lv_goto hx hb d_M_writeRun_175 rfl ?_
                        exact ih (i + 1) zi ls H locs (by omega) (by first | exact hr0.trans (rRunL_n h144) | exact hr0.trans (rRunL_f h144 h166) | rfl) (lv_sub hl [4, 5, 6, 7, 8, 0] rfl) hP hS
                      · have h144 := Int32.not_le.mp g144
                        obtain ⟨hl5, hl6, hl7⟩ := rl_tn gN4 gN (by omega) (by omega) h144
                        have hl : lv_has ls 9 [(8, .int (nI (tn (rLst N (tn x) (tn n) i)))), (7, .int (nI (tn x - (i * (N - 2))))), (6, .int (nI (i * (N - 2)))), (0, .ref (q 0)), (1, .int (nI (tn x))), (2, .int (nI (tn n))), (3, .int v), (4, .int (nI (tn x + tn n))), (5, .int (nI i))] := by rw [← hl7]; exact hl
                        refine lv_aload_n hx hb d_M_writeRun_147 rfl (lv_at hl 3 rfl) ?_
                        refine lv_iload hx hb d_M_writeRun_148 (lv_at hl 8 rfl) ?_
                        refine lv_iload hx hb d_M_writeRun_150 (lv_at hl 1 rfl) ?_
                        refine lv_iload hx hb d_M_writeRun_152 (lv_at hl 0 rfl) ?_
                        refine lv_iload_n hx hb d_M_writeRun_154 rfl (lv_at hl 6 rfl) ?_
                        refine lv_iload hx hb d_M_writeRun_155 (lv_at hl 2 rfl) ?_
                        refine lv_iload hx hb d_M_writeRun_157 (lv_at hl 1 rfl) ?_
                        refine lv_iadd hx hb d_M_writeRun_159 ?_
                        refine k_top (nI (i * (N - 2) + (tn x - (i * (N - 2))))) (nI_add (i * (N - 2)) (tn x - (i * (N - 2)))) ?_
                        refine lv_iload_n hx hb d_M_writeRun_160 rfl (lv_at hl 4 rfl) ?_
                        refine lv_isub hx hb d_M_writeRun_161 ?_
                        refine k_top (nI (i * (N - 2) + (tn x - (i * (N - 2))) - (tn x))) (pk_sub (a := i * (N - 2) + (tn x - (i * (N - 2)))) (b := tn x) (by omega)) ?_
                        refine lv_iadd hx hb d_M_writeRun_162 ?_
                        refine k_wri (va_runV (C := R_M) (As := [.int (nI i), .int (nI (tn x - (i * (N - 2)))), .int (nI (tn (rLst N (tn x) (tn n) i))), .int (v + (nI (i * (N - 2) + (tn x - (i * (N - 2))) - (tn x))))]) (rest := []) ⟨hx, hb, hml, hown, hts⟩ (c_Model_writeStripe l D cA q N S zi (by omega) (by omega) (by omega) (by omega) i (tn x - (i * (N - 2))) (tn (rLst N (tn x) (tn n) i)) (v + (nI (i * (N - 2) + (tn x - (i * (N - 2))) - (tn x)))) (by omega) (by omega) (by omega)) (k_cwV 4 hts m_code_M_writeStripe m_ini_M m_l_M_126 m_inst_M_writeStripe m_sel_M_writeStripe h_M_writeStripe rfl rfl ⟨Nat.le_of_ble_eq_true rfl, Nat.le_of_ble_eq_true rfl⟩) (k_pW hP hK hD [0, 1, 2, 3, 4] (by decide) rfl 0 4 rfl rfl) rfl rfl hl.1 rfl (lv_room (Nat.le_of_ble_eq_true rfl)) d_M_writeRun_163 ⟨Nat.zero_le _, Nat.zero_le _⟩) hS hD [0, 1, 2, 3, 4] rfl (fun r u H1 locs hp hk hP1 hS => ?_)
                        subst hp
                        obtain ⟨u9, hu9⟩ : ∃ w, w = (rWS N i (tn x - (i * (N - 2))) (tn (rLst N (tn x) (tn n) i)) (v + (nI (i * (N - 2) + (tn x - (i * (N - 2))) - (tn x)))) zi).2 := ⟨_, rfl⟩
                        have hP : va_P D vwCl (wM cA q N S u9) H1 := by rw [hu9]; exact hP1
                        have hD : va_D (k_A (wM cA q N S z)) (wM cA q N S u9) := wM_D hDD
                        generalize H1 = H at hP hS ⊢
                        refine lv_if_ne (tgt := 172) hx hb d_M_writeRun_166 rfl (fun g166 => ?_) (fun g166 => ?_)
                        · have h166 := bi_nz.mp g166
                          refine lv_iinc (k := 8) (v := nI (i + 1)) (lv' := [(5, .int (nI (i + 1))), (8, .int (nI (tn (rLst N (tn x) (tn n) i)))), (7, .int (nI (tn x - (i * (N - 2))))), (6, .int (nI (i * (N - 2)))), (0, .ref (q 0)), (1, .int (nI (tn x))), (2, .int (nI (tn n))), (3, .int v), (4, .int (nI (tn x + tn n)))]) hx hb d_M_writeRun_172 hl rfl (nI_add i 1) (by decide) rfl (fun ls hl => ?_)
                          refine lv_goto hx hb d_M_writeRun_175 rfl ?_
                          exact ih (i + 1) u9 ls H locs (by omega) (by subst hu9; first | exact hr0.trans (rRunL_n h144) | exact hr0.trans (rRunL_f h144 h166) | rfl) (lv_sub hl [4, 5, 6, 7, 8, 0] rfl) hP hS
                        · have h166 := bi_z.mp g166
                          have hr1 := hr0.trans (rRunL_t h144 h166)
                          refine lv_bipush (v := (-4)) hx hb d_M_writeRun_169 (by decide) ?_
                          have e10 : (rWRun N S x n v z).2 = u9 := by subst hu9; first | ((try unfold rWRun); (repeat (first | rw [if_pos g5] | rw [if_neg g5] | rw [if_pos h5] | rw [if_neg h5] | rw [if_pos g10] | rw [if_neg g10] | rw [if_pos h10] | rw [if_neg h10] | rw [if_pos g27] | rw [if_neg g27] | rw [if_pos h27] | rw [if_neg h27] | rw [if_pos g36] | rw [if_neg g36] | rw [if_pos g43] | rw [if_neg g43] | rw [if_pos h43] | rw [if_neg h43] | rw [hrf] | rw [if_pos g80] | rw [if_neg g80] | rw [if_pos h80] | rw [if_neg h80] | rw [if_pos k80] | rw [if_neg k80] | rw [if_pos g97] | rw [if_neg g97] | rw [if_pos h97] | rw [if_neg h97] | rw [if_pos k97] | rw [if_neg k97] | rw [if_pos g121] | rw [if_neg g121] | rw [if_pos h121] | rw [if_neg h121] | rw [if_pos k121] | rw [if_neg k121] | rw [if_pos g144] | rw [if_neg g144] | rw [if_pos h144] | rw [if_neg h144] | rw [if_pos g166] | rw [if_neg g166] | rw [if_pos h166] | rw [h166] | rw [hr1] | rw [rRV_n2] | rw [rRA_n] | rw [if_pos (rfl : (0 : Int32) = 0)] | rw [if_neg (show ¬ (-2 : Int32) = 0 by decide)] | rw [if_neg (show ¬ (-3 : Int32) = 0 by decide)] | rw [if_neg (show ¬ true = false by decide)] | rw [if_pos (show false = false from rfl)] | dsimp only)); first | done | rfl) | rfl
                          exact W.iret (v := (-4)) hx hb hr (fun t ht hW => ⟨⟨_, (), rfl, by subst hu9; first | ((try unfold rWRun); (repeat (first | rw [if_pos g5] | rw [if_neg g5] | rw [if_pos h5] | rw [if_neg h5] | rw [if_pos g10] | rw [if_neg g10] | rw [if_pos h10] | rw [if_neg h10] | rw [if_pos g27] | rw [if_neg g27] | rw [if_pos h27] | rw [if_neg h27] | rw [if_pos g36] | rw [if_neg g36] | rw [if_pos g43] | rw [if_neg g43] | rw [if_pos h43] | rw [if_neg h43] | rw [hrf] | rw [if_pos g80] | rw [if_neg g80] | rw [if_pos h80] | rw [if_neg h80] | rw [if_pos k80] | rw [if_neg k80] | rw [if_pos g97] | rw [if_neg g97] | rw [if_pos h97] | rw [if_neg h97] | rw [if_pos k97] | rw [if_neg k97] | rw [if_pos g121] | rw [if_neg g121] | rw [if_pos h121] | rw [if_neg h121] | rw [if_pos k121] | rw [if_neg k121] | rw [if_pos g144] | rw [if_neg g144] | rw [if_pos h144] | rw [if_neg h144] | rw [if_pos g166] | rw [if_neg g166] | rw [if_pos h166] | rw [h166] | rw [hr1] | rw [rRV_n2] | rw [rRA_n] | rw [if_pos (rfl : (0 : Int32) = 0)] | rw [if_neg (show ¬ (-2 : Int32) = 0 by decide)] | rw [if_neg (show ¬ (-3 : Int32) = 0 by decide)] | rw [if_neg (show ¬ true = false by decide)] | rw [if_pos (show false = false from rfl)] | dsimp only)); first | done | rfl) | rfl, by show va_P D vwCl (wM cA q N S ((rWRun N S x n v z).2)) t.heap; rw [ht, e10]; exact hP⟩, hS.F ht⟩) hS.2.2 d_M_writeRun_171
                    · have h121 : ¬ (i * (N - 2) + N - 2) ≤ (tn x + tn n) := fun q9 => g121 ((nI_leI (a := i * (N - 2) + N - 2) (b := tn x + tn n) (by omega) (by omega)).mpr q9)
                      have k121 : (tn x + tn n) < (i * (N - 2) + N - 2) := by omega
                      refine lv_iload hx hb d_M_writeRun_124 (lv_at hl 6 rfl) ?_
                      refine lv_iload hx hb d_M_writeRun_126 (lv_at hl 1 rfl) ?_
                      refine lv_isub hx hb d_M_writeRun_128 ?_
                      refine k_top (rLst N (tn x) (tn n) i) (by unfold rLst; rw [if_pos (by omega)]) ?_
                      refine lv_goto hx hb d_M_writeRun_129 rfl ?_
                      refine lv_istore (lv' := [(8, .int (rLst N (tn x) (tn n) i)), (7, .int (nI (tn x - (i * (N - 2))))), (6, .int (nI (i * (N - 2)))), (0, .ref (q 0)), (1, .int (nI (tn x))), (2, .int (nI (tn n))), (3, .int v), (4, .int (nI (tn x + tn n))), (5, .int (nI i))]) hx hb d_M_writeRun_138 hl (by decide) rfl (fun ls hl => ?_)
                      refine lv_iload hx hb d_M_writeRun_140 (lv_at hl 1 rfl) ?_
                      refine lv_iload hx hb d_M_writeRun_142 (lv_at hl 0 rfl) ?_
                      refine lv_icmp_ge (tgt := 172) hx hb d_M_writeRun_144 rfl (fun g144 => ?_) (fun g144 => ?_)
                      · have h144 := Int32.not_lt.mpr g144
                        refine lv_iinc (k := 8) (v := nI (i + 1)) (lv' := [(5, .int (nI (i + 1))), (8, .int (rLst N (tn x) (tn n) i)), (7, .int (nI (tn x - (i * (N - 2))))), (6, .int (nI (i * (N - 2)))), (0, .ref (q 0)), (1, .int (nI (tn x))), (2, .int (nI (tn n))), (3, .int v), (4, .int (nI (tn x + tn n)))]) hx hb d_M_writeRun_172 hl rfl (nI_add i 1) (by decide) rfl (fun ls hl => ?_)
                        refine lv_goto hx hb d_M_writeRun_175 rfl ?_
                        exact ih (i + 1) zi ls H locs (by omega) (by first | exact hr0.trans (rRunL_n h144) | exact hr0.trans (rRunL_f h144 h166) | rfl) (lv_sub hl [4, 5, 6, 7, 8, 0] rfl) hP hS
                      · have h144 := Int32.not_le.mp g144
                        obtain ⟨hl5, hl6, hl7⟩ := rl_tn gN4 gN (by omega) (by omega) h144
                        have hl : lv_has ls 9 [(8, .int (nI (tn (rLst N (tn x) (tn n) i)))), (7, .int (nI (tn x - (i * (N - 2))))), (6, .int (nI (i * (N - 2)))), (0, .ref (q 0)), (1, .int (nI (tn x))), (2, .int (nI (tn n))), (3, .int v), (4, .int (nI (tn x + tn n))), (5, .int (nI i))] := by rw [← hl7]; exact hl
                        refine lv_aload_n hx hb d_M_writeRun_147 rfl (lv_at hl 3 rfl) ?_
                        refine lv_iload hx hb d_M_writeRun_148 (lv_at hl 8 rfl) ?_
                        refine lv_iload hx hb d_M_writeRun_150 (lv_at hl 1 rfl) ?_
                        refine lv_iload hx hb d_M_writeRun_152 (lv_at hl 0 rfl) ?_
                        refine lv_iload_n hx hb d_M_writeRun_154 rfl (lv_at hl 6 rfl) ?_
                        refine lv_iload hx hb d_M_writeRun_155 (lv_at hl 2 rfl) ?_
                        refine lv_iload hx hb d_M_writeRun_157 (lv_at hl 1 rfl) ?_
                        refine lv_iadd hx hb d_M_writeRun_159 ?_
                        refine k_top (nI (i * (N - 2) + (tn x - (i * (N - 2))))) (nI_add (i * (N - 2)) (tn x - (i * (N - 2)))) ?_
                        refine lv_iload_n hx hb d_M_writeRun_160 rfl (lv_at hl 4 rfl) ?_
                        refine lv_isub hx hb d_M_writeRun_161 ?_
                        refine k_top (nI (i * (N - 2) + (tn x - (i * (N - 2))) - (tn x))) (pk_sub (a := i * (N - 2) + (tn x - (i * (N - 2)))) (b := tn x) (by omega)) ?_
                        refine lv_iadd hx hb d_M_writeRun_162 ?_
                        refine k_wri (va_runV (C := R_M) (As := [.int (nI i), .int (nI (tn x - (i * (N - 2)))), .int (nI (tn (rLst N (tn x) (tn n) i))), .int (v + (nI (i * (N - 2) + (tn x - (i * (N - 2))) - (tn x))))]) (rest := []) ⟨hx, hb, hml, hown, hts⟩ (c_Model_writeStripe l D cA q N S zi (by omega) (by omega) (by omega) (by omega) i (tn x - (i * (N - 2))) (tn (rLst N (tn x) (tn n) i)) (v + (nI (i * (N - 2) + (tn x - (i * (N - 2))) - (tn x)))) (by omega) (by omega) (by omega)) (k_cwV 4 hts m_code_M_writeStripe m_ini_M m_l_M_126 m_inst_M_writeStripe m_sel_M_writeStripe h_M_writeStripe rfl rfl ⟨Nat.le_of_ble_eq_true rfl, Nat.le_of_ble_eq_true rfl⟩) (k_pW hP hK hD [0, 1, 2, 3, 4] (by decide) rfl 0 4 rfl rfl) rfl rfl hl.1 rfl (lv_room (Nat.le_of_ble_eq_true rfl)) d_M_writeRun_163 ⟨Nat.zero_le _, Nat.zero_le _⟩) hS hD [0, 1, 2, 3, 4] rfl (fun r u H1 locs hp hk hP1 hS => ?_)
                        subst hp
                        obtain ⟨u11, hu11⟩ : ∃ w, w = (rWS N i (tn x - (i * (N - 2))) (tn (rLst N (tn x) (tn n) i)) (v + (nI (i * (N - 2) + (tn x - (i * (N - 2))) - (tn x)))) zi).2 := ⟨_, rfl⟩
                        have hP : va_P D vwCl (wM cA q N S u11) H1 := by rw [hu11]; exact hP1
                        have hD : va_D (k_A (wM cA q N S z)) (wM cA q N S u11) := wM_D hDD
                        generalize H1 = H at hP hS ⊢
                        refine lv_if_ne (tgt := 172) hx hb d_M_writeRun_166 rfl (fun g166 => ?_) (fun g166 => ?_)
                        · have h166 := bi_nz.mp g166
                          refine lv_iinc (k := 8) (v := nI (i + 1)) (lv' := [(5, .int (nI (i + 1))), (8, .int (nI (tn (rLst N (tn x) (tn n) i)))), (7, .int (nI (tn x - (i * (N - 2))))), (6, .int (nI (i * (N - 2)))), (0, .ref (q 0)), (1, .int (nI (tn x))), (2, .int (nI (tn n))), (3, .int v), (4, .int (nI (tn x + tn n)))]) hx hb d_M_writeRun_172 hl rfl (nI_add i 1) (by decide) rfl (fun ls hl => ?_)
                          refine lv_goto hx hb d_M_writeRun_175 rfl ?_
                          exact ih (i + 1) u11 ls H locs (by omega) (by subst hu11; first | exact hr0.trans (rRunL_n h144) | exact hr0.trans (rRunL_f h144 h166) | rfl) (lv_sub hl [4, 5, 6, 7, 8, 0] rfl) hP hS
                        · have h166 := bi_z.mp g166
                          have hr1 := hr0.trans (rRunL_t h144 h166)
                          refine lv_bipush (v := (-4)) hx hb d_M_writeRun_169 (by decide) ?_
                          have e12 : (rWRun N S x n v z).2 = u11 := by subst hu11; first | ((try unfold rWRun); (repeat (first | rw [if_pos g5] | rw [if_neg g5] | rw [if_pos h5] | rw [if_neg h5] | rw [if_pos g10] | rw [if_neg g10] | rw [if_pos h10] | rw [if_neg h10] | rw [if_pos g27] | rw [if_neg g27] | rw [if_pos h27] | rw [if_neg h27] | rw [if_pos g36] | rw [if_neg g36] | rw [if_pos g43] | rw [if_neg g43] | rw [if_pos h43] | rw [if_neg h43] | rw [hrf] | rw [if_pos g80] | rw [if_neg g80] | rw [if_pos h80] | rw [if_neg h80] | rw [if_pos k80] | rw [if_neg k80] | rw [if_pos g97] | rw [if_neg g97] | rw [if_pos h97] | rw [if_neg h97] | rw [if_pos k97] | rw [if_neg k97] | rw [if_pos g121] | rw [if_neg g121] | rw [if_pos h121] | rw [if_neg h121] | rw [if_pos k121] | rw [if_neg k121] | rw [if_pos g144] | rw [if_neg g144] | rw [if_pos h144] | rw [if_neg h144] | rw [if_pos g166] | rw [if_neg g166] | rw [if_pos h166] | rw [h166] | rw [hr1] | rw [rRV_n2] | rw [rRA_n] | rw [if_pos (rfl : (0 : Int32) = 0)] | rw [if_neg (show ¬ (-2 : Int32) = 0 by decide)] | rw [if_neg (show ¬ (-3 : Int32) = 0 by decide)] | rw [if_neg (show ¬ true = false by decide)] | rw [if_pos (show false = false from rfl)] | dsimp only)); first | done | rfl) | rfl
                          exact W.iret (v := (-4)) hx hb hr (fun t ht hW => ⟨⟨_, (), rfl, by subst hu11; first | ((try unfold rWRun); (repeat (first | rw [if_pos g5] | rw [if_neg g5] | rw [if_pos h5] | rw [if_neg h5] | rw [if_pos g10] | rw [if_neg g10] | rw [if_pos h10] | rw [if_neg h10] | rw [if_pos g27] | rw [if_neg g27] | rw [if_pos h27] | rw [if_neg h27] | rw [if_pos g36] | rw [if_neg g36] | rw [if_pos g43] | rw [if_neg g43] | rw [if_pos h43] | rw [if_neg h43] | rw [hrf] | rw [if_pos g80] | rw [if_neg g80] | rw [if_pos h80] | rw [if_neg h80] | rw [if_pos k80] | rw [if_neg k80] | rw [if_pos g97] | rw [if_neg g97] | rw [if_pos h97] | rw [if_neg h97] | rw [if_pos k97] | rw [if_neg k97] | rw [if_pos g121] | rw [if_neg g121] | rw [if_pos h121] | rw [if_neg h121] | rw [if_pos k121] | rw [if_neg k121] | rw [if_pos g144] | rw [if_neg g144] | rw [if_pos h144] | rw [if_neg h144] | rw [if_pos g166] | rw [if_neg g166] | rw [if_pos h166] | rw [h166] | rw [hr1] | rw [rRV_n2] | rw [rRA_n] | rw [if_pos (rfl : (0 : Int32) = 0)] | rw [if_neg (show ¬ (-2 : Int32) = 0 by decide)] | rw [if_neg (show ¬ (-3 : Int32) = 0 by decide)] | rw [if_neg (show ¬ true = false by decide)] | rw [if_pos (show false = false from rfl)] | dsimp only)); first | done | rfl) | rfl, by show va_P D vwCl (wM cA q N S ((rWRun N S x n v z).2)) t.heap; rw [ht, e12]; exact hP⟩, hS.F ht⟩) hS.2.2 d_M_writeRun_171
            have e13 : nI (tn x + tn n) = nI (tn x + (tn n)) := by first | ((try unfold rWRun); (repeat (first | rw [if_pos g5] | rw [if_neg g5] | rw [if_pos h5] | rw [if_neg h5] | rw [if_pos g10] | rw [if_neg g10] | rw [if_pos h10] | rw [if_neg h10] | rw [if_pos g27] | rw [if_neg g27] | rw [if_pos h27] | rw [if_neg h27] | rw [if_pos g36] | rw [if_neg g36] | rw [if_pos g43] | rw [if_neg g43] | rw [if_pos h43] | rw [if_neg h43] | rw [hrf] | rw [rRV_n2] | rw [rRA_n] | rw [if_pos (rfl : (0 : Int32) = 0)] | rw [if_neg (show ¬ (-2 : Int32) = 0 by decide)] | rw [if_neg (show ¬ (-3 : Int32) = 0 by decide)] | rw [if_neg (show ¬ true = false by decide)] | rw [if_pos (show false = false from rfl)] | dsimp only)); first | done | rfl) | rfl
            have e14 : nI 0 = 0 := by first | ((try unfold rWRun); (repeat (first | rw [if_pos g5] | rw [if_neg g5] | rw [if_pos h5] | rw [if_neg h5] | rw [if_pos g10] | rw [if_neg g10] | rw [if_pos h10] | rw [if_neg h10] | rw [if_pos g27] | rw [if_neg g27] | rw [if_pos h27] | rw [if_neg h27] | rw [if_pos g36] | rw [if_neg g36] | rw [if_pos g43] | rw [if_neg g43] | rw [if_pos h43] | rw [if_neg h43] | rw [hrf] | rw [rRV_n2] | rw [rRA_n] | rw [if_pos (rfl : (0 : Int32) = 0)] | rw [if_neg (show ¬ (-2 : Int32) = 0 by decide)] | rw [if_neg (show ¬ (-3 : Int32) = 0 by decide)] | rw [if_neg (show ¬ true = false by decide)] | rw [if_pos (show false = false from rfl)] | dsimp only)); first | done | rfl) | rfl
            exact L74 S 0 (tMd z 0) ls H locs (by omega) (by first | exact hr0.trans (rRunL_n h144) | exact hr0.trans (rRunL_f h144 h166) | rfl) (by rw [e13, e14]; exact lv_sub hl [2, 3, 4, 5, 1, 0] rfl) hP hS
          · have h43 := of_decide_eq_true (bi_nz.mp g43)
            refine lv_aload_n hx hb d_M_writeRun_46 rfl (lv_at hl 0 rfl) ?_
            refine va_get (D := D) (ci := 4) (v := .int (rDn z)) (C := R_M) (T := T_M) (N := 16) hx hb hts (in_M) hown hK hP 0 rfl rfl 3 (by decide) (hts _ m_f_M_73) (fun _ h9 => h9) rfl d_M_writeRun_47 ?_
            refine lv_if_eq (tgt := 58) hx hb d_M_writeRun_50 rfl (fun g50 => ?_) (fun g50 => ?_)
            · have hrf : rRef N S z = -3 := by unfold rRef; rw [if_pos g50, if_pos h43]
              refine lv_bipush (v := (-3)) hx hb d_M_writeRun_58 (by decide) ?_
              have e15 : (rWRun N S x n v z).2 = z := by first | ((try unfold rWRun); (repeat (first | rw [if_pos g5] | rw [if_neg g5] | rw [if_pos h5] | rw [if_neg h5] | rw [if_pos g10] | rw [if_neg g10] | rw [if_pos h10] | rw [if_neg h10] | rw [if_pos g27] | rw [if_neg g27] | rw [if_pos h27] | rw [if_neg h27] | rw [if_pos g36] | rw [if_neg g36] | rw [if_pos g43] | rw [if_neg g43] | rw [if_pos h43] | rw [if_neg h43] | rw [if_pos g50] | rw [if_neg g50] | rw [hrf] | rw [rRV_n2] | rw [rRA_n] | rw [if_pos (rfl : (0 : Int32) = 0)] | rw [if_neg (show ¬ (-2 : Int32) = 0 by decide)] | rw [if_neg (show ¬ (-3 : Int32) = 0 by decide)] | rw [if_neg (show ¬ true = false by decide)] | rw [if_pos (show false = false from rfl)] | dsimp only)); first | done | rfl) | rfl
              exact W.iret (v := (-3)) hx hb hr (fun t ht hW => ⟨⟨_, (), rfl, by first | ((try unfold rWRun); (repeat (first | rw [if_pos g5] | rw [if_neg g5] | rw [if_pos h5] | rw [if_neg h5] | rw [if_pos g10] | rw [if_neg g10] | rw [if_pos h10] | rw [if_neg h10] | rw [if_pos g27] | rw [if_neg g27] | rw [if_pos h27] | rw [if_neg h27] | rw [if_pos g36] | rw [if_neg g36] | rw [if_pos g43] | rw [if_neg g43] | rw [if_pos h43] | rw [if_neg h43] | rw [if_pos g50] | rw [if_neg g50] | rw [hrf] | rw [rRV_n2] | rw [rRA_n] | rw [if_pos (rfl : (0 : Int32) = 0)] | rw [if_neg (show ¬ (-2 : Int32) = 0 by decide)] | rw [if_neg (show ¬ (-3 : Int32) = 0 by decide)] | rw [if_neg (show ¬ true = false by decide)] | rw [if_pos (show false = false from rfl)] | dsimp only)); first | done | rfl) | rfl, by show va_P D vwCl (wM cA q N S ((rWRun N S x n v z).2)) t.heap; rw [ht, e15]; exact hP⟩, hS.F ht⟩) hS.2.2 d_M_writeRun_60
            · exact absurd g36 g50
      · have h27 := Int32.not_le.mp g27
        refine lv_iconst (v := (-1)) hx hb d_M_writeRun_30 (by decide) ?_
        have e16 : (rWRun N S x n v z).2 = z := by first | ((try unfold rWRun); (repeat (first | rw [if_pos g5] | rw [if_neg g5] | rw [if_pos h5] | rw [if_neg h5] | rw [if_pos g10] | rw [if_neg g10] | rw [if_pos h10] | rw [if_neg h10] | rw [if_pos g27] | rw [if_neg g27] | rw [if_pos h27] | rw [if_neg h27] | rw [rRV_n2] | rw [rRA_n] | rw [if_pos (rfl : (0 : Int32) = 0)] | rw [if_neg (show ¬ (-2 : Int32) = 0 by decide)] | rw [if_neg (show ¬ (-3 : Int32) = 0 by decide)] | rw [if_neg (show ¬ true = false by decide)] | rw [if_pos (show false = false from rfl)] | dsimp only)); first | done | rfl) | rfl
        exact W.iret (v := (-1)) hx hb hr (fun t ht hW => ⟨⟨_, (), rfl, by first | ((try unfold rWRun); (repeat (first | rw [if_pos g5] | rw [if_neg g5] | rw [if_pos h5] | rw [if_neg h5] | rw [if_pos g10] | rw [if_neg g10] | rw [if_pos h10] | rw [if_neg h10] | rw [if_pos g27] | rw [if_neg g27] | rw [if_pos h27] | rw [if_neg h27] | rw [rRV_n2] | rw [rRA_n] | rw [if_pos (rfl : (0 : Int32) = 0)] | rw [if_neg (show ¬ (-2 : Int32) = 0 by decide)] | rw [if_neg (show ¬ (-3 : Int32) = 0 by decide)] | rw [if_neg (show ¬ true = false by decide)] | rw [if_pos (show false = false from rfl)] | dsimp only)); first | done | rfl) | rfl, by show va_P D vwCl (wM cA q N S ((rWRun N S x n v z).2)) t.heap; rw [ht, e16]; exact hP⟩, hS.F ht⟩) hS.2.2 d_M_writeRun_31
set_option maxHeartbeats 4000000 in
set_option maxRecDepth 100000 in
theorem c_Model_write (l : Launch) (D : va_G) (cA : ClassId) (q : Nat → Nat) (N S : Nat) (z : RS) (gN4 : 4 ≤ N) (gN : N ≤ 10) (gS1 : 1 ≤ S) (gS : S ≤ 16) (x v : Int32) : Met l y_M_write w_M_write ({ frames := 6, cells := 0, slots := 0, locals := 156 }) (va_Pc [.ref (q 0), .int x, .int v] (k_Wc D [(cA, .int)] (wM cA q N S z))) (va_Qi (fun (r : Int32) (_ : Unit) => r = (rWRun N S x 1 v z).1) (fun _ t => va_P D vwCl (wM cA q N S ((rWRun N S x 1 v z).2)) t.heap) (k_A (wM cA q N S z))) 0 0 (k_A (wM cA q N S z)) := by
  refine Met.ofW (cc := b_M_write) (maxL := 3) (ret := (some .int)) (by decide) rfl ?_
  intro p e s m args below meth c s₁ B hml hv
  obtain ⟨rfl, hP, hK, hD0⟩ := hv
  have hx := B.exec
  have hb := B.bytes
  have hr := B.returns
  have hts0 := atoms_spec (ws := w_M_write) B.pre
  have hts : ∀ w ∈ lw_g, w.before _ s = true := fun w h => hts0 w (List.mem_cons_of_mem _ h)
  have hown : s.vm.findClass R_M = some m.cls := findClass_of_methodNamed B.named
  have hlocks := B.notSynchronized
  have hD := k_Dself hD0
  have hDD := hD
  have hS : va_S (k_A (wM cA q N S z)) s.heap s.heap [] := va_S.rf
  have hl := lv_entry ([.ref (q 0), .int x, .int v]) (n := 3) (Nat.le_of_ble_eq_true rfl)
  rw [lg_entry_eq]
  generalize (lg_sl ([.ref (q 0), .int x, .int v]) ++ List.replicate (3 - (lg_sl ([.ref (q 0), .int x, .int v])).length) Slot.unset).toArray = ls at hl ⊢
  have hl : lv_has ls 3 [(0, .ref (q 0)), (1, .int x), (2, .int v)] := hl
  refine lv_aload_n hx hb d_M_write_0 rfl (lv_at hl 0 rfl) ?_
  refine lv_iload_n hx hb d_M_write_1 rfl (lv_at hl 1 rfl) ?_
  refine lv_iconst (v := 1) hx hb d_M_write_2 (by decide) ?_
  refine lv_iload_n hx hb d_M_write_3 rfl (lv_at hl 2 rfl) ?_
  refine k_wri (va_runV (C := R_M) (As := [.int x, .int 1, .int v]) (rest := []) ⟨hx, hb, hml, hown, hts⟩ (c_Model_writeRun l D cA q N S z (by omega) (by omega) (by omega) (by omega) x 1 v) (k_cwV 3 hts m_code_M_writeRun m_ini_M m_l_M_122 m_inst_M_writeRun m_sel_M_writeRun h_M_writeRun rfl rfl ⟨Nat.le_of_ble_eq_true rfl, Nat.le_of_ble_eq_true rfl⟩) (k_pW hP hK hD [0, 1, 2, 3, 4] (by decide) rfl 0 4 rfl rfl) rfl rfl hl.1 rfl (lv_room (Nat.le_of_ble_eq_true rfl)) d_M_write_4 ⟨Nat.zero_le _, Nat.zero_le _⟩) hS hD [0, 1, 2, 3, 4] rfl (fun r u H1 locs hp hk hP1 hS => ?_)
  subst hp
  obtain ⟨u1, hu1⟩ : ∃ w, w = (rWRun N S x 1 v z).2 := ⟨_, rfl⟩
  have hP : va_P D vwCl (wM cA q N S u1) H1 := by rw [hu1]; exact hP1
  have hD : va_D (k_A (wM cA q N S z)) (wM cA q N S u1) := wM_D hDD
  generalize H1 = H at hP hS ⊢
  have e2 : (rWRun N S x 1 v z).2 = u1 := by subst hu1; first | rfl | (simp []; done) | omega
  exact W.iret (v := (rWRun N S x 1 v z).1) hx hb hr (fun t ht hW => ⟨⟨_, (), rfl, rfl, by show va_P D vwCl (wM cA q N S ((rWRun N S x 1 v z).2)) t.heap; rw [ht, e2]; exact hP⟩, hS.F ht⟩) hS.2.2 d_M_write_7
