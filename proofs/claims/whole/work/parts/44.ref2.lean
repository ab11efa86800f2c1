set_option maxHeartbeats 4000000 in
set_option maxRecDepth 100000 in
theorem c_Model_valueOn (l : Launch) (D : va_G) (cA : ClassId) (q : Nat → Nat) (N S : Nat) (z : RS) (gN4 : 4 ≤ N) (gN : N ≤ 10) (gS1 : 1 ≤ S) (gS : S ≤ 16) (d b : Nat) (hd1 : d < N) (hb1 : b < S) : Met l y_M_valueOn w_M_valueOn ({ frames := 1, cells := 0, slots := 0, locals := 23 }) (va_Pc [.ref (q 0), .int (nI d), .int (nI b)] (k_R D [(cA, .int)] (wM cA q N S z))) (k_Ro (some (.int (rvO N d b (rV z) 10)))) 0 0 (fun _ => False) := by
  refine Met.ofW (cc := b_M_valueOn) (maxL := 6) (ret := (some .int)) (by decide) rfl ?_
  intro p e s m args below meth c s₁ B hml hv
  obtain ⟨rfl, hP, hK⟩ := hv
  have hx := B.exec
  have hb := B.bytes
  have hr := B.returns
  have hts0 := atoms_spec (ws := w_M_valueOn) B.pre
  have hts : ∀ w ∈ lw_g, w.before _ s = true := fun w h => hts0 w (List.mem_cons_of_mem _ h)
  have hown : s.vm.findClass R_M = some m.cls := findClass_of_methodNamed B.named
  have hlocks := B.notSynchronized
  have hl := lv_entry ([.ref (q 0), .int (nI d), .int (nI b)]) (n := 6) (Nat.le_of_ble_eq_true rfl)
  rw [lg_entry_eq]
  generalize (lg_sl ([.ref (q 0), .int (nI d), .int (nI b)]) ++ List.replicate (6 - (lg_sl ([.ref (q 0), .int (nI d), .int (nI b)])).length) Slot.unset).toArray = ls at hl ⊢
  have hl : lv_has ls 6 [(0, .ref (q 0)), (1, .int (nI d)), (2, .int (nI b))] := hl
  refine lv_iconst (v := 0) hx hb d_M_valueOn_0 (by decide) ?_
  refine lv_istore_n (lv' := [(3, .int 0), (0, .ref (q 0)), (1, .int (nI d)), (2, .int (nI b))]) hx hb d_M_valueOn_1 rfl hl (by decide) rfl (fun ls hl => ?_)
  refine lv_iconst (v := 0) hx hb d_M_valueOn_2 (by decide) ?_
  refine lv_istore (lv' := [(4, .int 0), (3, .int 0), (0, .ref (q 0)), (1, .int (nI d)), (2, .int (nI b))]) hx hb d_M_valueOn_3 hl (by decide) rfl (fun ls hl => ?_)
  have L5 : ∀ (k : Nat) (i : Nat) (ls : Array Slot), i + k = 10 → lv_has ls 6 [(0, .ref (q 0)), (1, .int (nI d)), (2, .int (nI b)), (3, .int (rvO N d b (rV z) i)), (4, .int (nI i))] → W p l e (headSpec w_M_valueOn ({ frames := 1, cells := 0, slots := 0, locals := 23 })).room s m ([.ref (q 0), .int (nI d), .int (nI b)] : List Value).toArray below meth c s.heap [] 0 0 (MQ below (k_Ro (some (.int (rvO N d b (rV z) 10)))) ([.ref (q 0), .int (nI d), .int (nI b)] : List Value).toArray s 0 0 (fun _ => False)) (F0 m 5 ls []) := by
    intro k
    induction k with
    | zero =>
      intro i ls hk hl
      obtain rfl : 10 = i := by omega
      refine lv_iload hx hb d_M_valueOn_5 (lv_at hl 4 rfl) ?_
      refine lv_bipush (v := 10) hx hb d_M_valueOn_7 (by decide) ?_
      refine lv_icmp_ge (tgt := 67) hx hb d_M_valueOn_9 rfl (fun g9 => ?_) (fun g9 => ?_)
      · have h9 : 10 ≤ 10 := (nI_leI (a := 10) (b := 10) (by omega) (by omega)).mp g9
        have k9 : ¬ 10 < 10 := by omega
        refine lv_iload_n hx hb d_M_valueOn_67 rfl (lv_at hl 3 rfl) ?_
        exact W.iret (v := rvO N d b (rV z) 10) hx hb hr (fun t ht hW => ⟨rfl, ht⟩) (fun _ h => by cases h) d_M_valueOn_68
      · have h9 : ¬ 10 ≤ 10 := fun q9 => g9 ((nI_leI (a := 10) (b := 10) (by omega) (by omega)).mpr q9)
        have k9 : 10 < 10 := by omega
        exfalso; omega
    | succ k ih =>
      intro i ls hk hl
      refine lv_iload hx hb d_M_valueOn_5 (lv_at hl 4 rfl) ?_
      refine lv_bipush (v := 10) hx hb d_M_valueOn_7 (by decide) ?_
      refine lv_icmp_ge (tgt := 67) hx hb d_M_valueOn_9 rfl (fun g9 => ?_) (fun g9 => ?_)
      · have h9 : 10 ≤ i := (nI_leI (a := 10) (b := i) (by omega) (by omega)).mp g9
        have k9 : ¬ i < 10 := by omega
        exfalso; omega
      · have h9 : ¬ 10 ≤ i := fun q9 => g9 ((nI_leI (a := 10) (b := i) (by omega) (by omega)).mpr q9)
        have k9 : i < 10 := by omega
        refine lv_iload hx hb d_M_valueOn_12 (lv_at hl 4 rfl) ?_
        refine lv_bipush (v := 8) hx hb d_M_valueOn_14 (by decide) ?_
        refine lv_icmp_ge (tgt := 30) hx hb d_M_valueOn_16 rfl (fun g16 => ?_) (fun g16 => ?_)
        · have h16 : 8 ≤ i := (nI_leI (a := 8) (b := i) (by omega) (by omega)).mp g16
          have k16 : ¬ i < 8 := by omega
          refine lv_iconst (v := 1) hx hb d_M_valueOn_30 (by decide) ?_
          refine lv_goto hx hb d_M_valueOn_31 rfl ?_
          refine lv_istore (lv' := [(5, .int 1), (0, .ref (q 0)), (1, .int (nI d)), (2, .int (nI b)), (3, .int (rvO N d b (rV z) i)), (4, .int (nI i))]) hx hb d_M_valueOn_35 hl (by decide) rfl (fun ls hl => ?_)
          refine lv_iload hx hb d_M_valueOn_37 (lv_at hl 0 rfl) ?_
          refine lv_if_eq (tgt := 61) hx hb d_M_valueOn_39 rfl (fun g39 => ?_) (fun g39 => ?_)
          · exact absurd g39 (by decide)
          · refine lv_aload_n hx hb d_M_valueOn_42 rfl (lv_at hl 1 rfl) ?_
            refine lv_iload hx hb d_M_valueOn_43 (lv_at hl 5 rfl) ?_
            refine lv_iload_n hx hb d_M_valueOn_45 rfl (lv_at hl 3 rfl) ?_
            refine k_roi (va_runV (C := R_M) (As := [.int (nI i), .int (nI b)]) (rest := []) ⟨hx, hb, hml, hown, hts⟩ (c_Model_diskOf l D cA q N S z (by omega) (by omega) (by omega) (by omega) i b (by omega) (by omega)) (k_cwV 2 hts m_code_M_diskOf m_ini_M m_l_M_39 m_inst_M_diskOf m_sel_M_diskOf h_M_diskOf rfl rfl ⟨Nat.le_of_ble_eq_true rfl, Nat.le_of_ble_eq_true rfl⟩) (k_pR hP hK [0, 1, 2, 3, 4] rfl 0 4 rfl rfl) rfl rfl hl.1 rfl (lv_room (Nat.le_of_ble_eq_true rfl)) d_M_valueOn_46 ⟨Nat.zero_le _, Nat.zero_le _⟩) ?_
            have f1 : rdk N i b < N := rdk_lt (by omega)
            refine lv_iload_n hx hb d_M_valueOn_49 rfl (lv_at hl 2 rfl) ?_
            refine lv_icmp_ne (tgt := 61) hx hb d_M_valueOn_50 rfl (fun g50 => ?_) (fun g50 => ?_)
            · have h50 : ¬ (rdk N i b) = d := fun q9 => g50 ((nI_eq (a := rdk N i b) (b := d) (by omega) (by omega)).mpr q9)
              refine lv_iinc (k := 5) (v := nI (i + 1)) (lv' := [(4, .int (nI (i + 1))), (5, .int 1), (0, .ref (q 0)), (1, .int (nI d)), (2, .int (nI b)), (3, .int (rvO N d b (rV z) i))]) hx hb d_M_valueOn_61 hl rfl (nI_add i 1) (by decide) rfl (fun ls hl => ?_)
              refine lv_goto hx hb d_M_valueOn_64 rfl ?_
              have e2 : rvO N d b (rV z) (i + 1) = rvO N d b (rV z) i := by first | rfl | (show (if _ then _ else _) = _; first | exact if_pos ⟨by omega, h50⟩ | exact if_neg (fun w => h50 w.2) | exact if_neg (fun w => by omega))
              exact ih (i + 1) ls (by omega) (by rw [e2]; exact lv_sub hl [2, 3, 4, 5, 0] rfl)
            · have h50 : (rdk N i b) = d := (nI_eq (a := rdk N i b) (b := d) (by omega) (by omega)).mp g50
              refine lv_aload_n hx hb d_M_valueOn_53 rfl (lv_at hl 1 rfl) ?_
              refine va_get (D := D) (ci := 4) (v := .ref (q 3)) (C := R_M) (T := T_M) (N := 16) hx hb hts (in_M) hown hK hP 0 rfl rfl 11 (by decide) (hts _ m_f_M_16) (fun _ h9 => h9) rfl d_M_valueOn_54 ?_
              refine lv_iload hx hb d_M_valueOn_57 (lv_at hl 5 rfl) ?_
              refine va_iald (n := 10) (f := rV z) hx hb hK hP 3 0 rfl rfl (vp_in_nI (by omega) (by omega)) d_M_valueOn_59 ?_
              refine k_top ((rV z) i) (by rw [show (nI i : Int32).toNatClampNeg = i from nI_clamp (n := i) (by omega)]) ?_
              refine lv_istore_n (lv' := [(3, .int ((rV z) i)), (5, .int 1), (0, .ref (q 0)), (1, .int (nI d)), (2, .int (nI b)), (4, .int (nI i))]) hx hb d_M_valueOn_60 rfl hl (by decide) rfl (fun ls hl => ?_)
              refine lv_iinc (k := 5) (v := nI (i + 1)) (lv' := [(4, .int (nI (i + 1))), (3, .int ((rV z) i)), (5, .int 1), (0, .ref (q 0)), (1, .int (nI d)), (2, .int (nI b))]) hx hb d_M_valueOn_61 hl rfl (nI_add i 1) (by decide) rfl (fun ls hl => ?_)
              refine lv_goto hx hb d_M_valueOn_64 rfl ?_
              have e3 : rvO N d b (rV z) (i + 1) = (rV z) i := by first | rfl | (show (if _ then _ else _) = _; first | exact if_pos ⟨by omega, h50⟩ | exact if_neg (fun w => h50 w.2) | exact if_neg (fun w => by omega))
              exact ih (i + 1) ls (by omega) (by rw [e3]; exact lv_sub hl [3, 4, 5, 1, 0] rfl)
        · have h16 : ¬ 8 ≤ i := fun q9 => g16 ((nI_leI (a := 8) (b := i) (by omega) (by omega)).mpr q9)
          have k16 : i < 8 := by omega
          refine lv_iload hx hb d_M_valueOn_19 (lv_at hl 4 rfl) ?_
          refine lv_aload_n hx hb d_M_valueOn_21 rfl (lv_at hl 0 rfl) ?_
          refine va_get (D := D) (ci := 4) (v := .int (nI N)) (C := R_M) (T := T_M) (N := 16) hx hb hts (in_M) hown hK hP 0 rfl rfl 0 (by decide) (hts _ m_f_M_26) (fun _ h9 => h9) rfl d_M_valueOn_22 ?_
          refine lv_iconst (v := 2) hx hb d_M_valueOn_25 (by decide) ?_
          refine lv_isub hx hb d_M_valueOn_26 ?_
          refine k_top (nI (N - 2)) (pk_sub (a := N) (b := 2) (by omega)) ?_
          refine lv_icmp_ge (tgt := 34) hx hb d_M_valueOn_27 rfl (fun g27 => ?_) (fun g27 => ?_)
          · have h27 : (N - 2) ≤ i := (nI_leI (a := N - 2) (b := i) (by omega) (by omega)).mp g27
            have k27 : ¬ i < (N - 2) := by omega
            refine lv_iconst (v := 0) hx hb d_M_valueOn_34 (by decide) ?_
            refine lv_istore (lv' := [(5, .int 0), (0, .ref (q 0)), (1, .int (nI d)), (2, .int (nI b)), (3, .int (rvO N d b (rV z) i)), (4, .int (nI i))]) hx hb d_M_valueOn_35 hl (by decide) rfl (fun ls hl => ?_)
            refine lv_iload hx hb d_M_valueOn_37 (lv_at hl 0 rfl) ?_
            refine lv_if_eq (tgt := 61) hx hb d_M_valueOn_39 rfl (fun g39 => ?_) (fun g39 => ?_)
            · refine lv_iinc (k := 5) (v := nI (i + 1)) (lv' := [(4, .int (nI (i + 1))), (5, .int 0), (0, .ref (q 0)), (1, .int (nI d)), (2, .int (nI b)), (3, .int (rvO N d b (rV z) i))]) hx hb d_M_valueOn_61 hl rfl (nI_add i 1) (by decide) rfl (fun ls hl => ?_)
              refine lv_goto hx hb d_M_valueOn_64 rfl ?_
              have e4 : rvO N d b (rV z) (i + 1) = rvO N d b (rV z) i := by first | rfl | (show (if _ then _ else _) = _; first | exact if_pos ⟨by omega, h50⟩ | exact if_neg (fun w => h50 w.2) | exact if_neg (fun w => by omega))
              exact ih (i + 1) ls (by omega) (by rw [e4]; exact lv_sub hl [2, 3, 4, 5, 0] rfl)
            · exact absurd g39 (by decide)
          · have h27 : ¬ (N - 2) ≤ i := fun q9 => g27 ((nI_leI (a := N - 2) (b := i) (by omega) (by omega)).mpr q9)
            have k27 : i < (N - 2) := by omega
            refine lv_iconst (v := 1) hx hb d_M_valueOn_30 (by decide) ?_
            refine lv_goto hx hb d_M_valueOn_31 rfl ?_
            refine lv_istore (lv' := [(5, .int 1), (0, .ref (q 0)), (1, .int (nI d)), (2, .int (nI b)), (3, .int (rvO N d b (rV z) i)), (4, .int (nI i))]) hx hb d_M_valueOn_35 hl (by decide) rfl (fun ls hl => ?_)
            refine lv_iload hx hb d_M_valueOn_37 (lv_at hl 0 rfl) ?_
            refine lv_if_eq (tgt := 61) hx hb d_M_valueOn_39 rfl (fun g39 => ?_) (fun g39 => ?_)
            · exact absurd g39 (by decide)
            · refine lv_aload_n hx hb d_M_valueOn_42 rfl (lv_at hl 1 rfl) ?_
              refine lv_iload hx hb d_M_valueOn_43 (lv_at hl 5 rfl) ?_
              refine lv_iload_n hx hb d_M_valueOn_45 rfl (lv_at hl 3 rfl) ?_
              refine k_roi (va_runV (C := R_M) (As := [.int (nI i), .int (nI b)]) (rest := []) ⟨hx, hb, hml, hown, hts⟩ (c_Model_diskOf l D cA q N S z (by omega) (by omega) (by omega) (by omega) i b (by omega) (by omega)) (k_cwV 2 hts m_code_M_diskOf m_ini_M m_l_M_39 m_inst_M_diskOf m_sel_M_diskOf h_M_diskOf rfl rfl ⟨Nat.le_of_ble_eq_true rfl, Nat.le_of_ble_eq_true rfl⟩) (k_pR hP hK [0, 1, 2, 3, 4] rfl 0 4 rfl rfl) rfl rfl hl.1 rfl (lv_room (Nat.le_of_ble_eq_true rfl)) d_M_valueOn_46 ⟨Nat.zero_le _, Nat.zero_le _⟩) ?_
              have f5 : rdk N i b < N := rdk_lt (by omega)
              refine lv_iload_n hx hb d_M_valueOn_49 rfl (lv_at hl 2 rfl) ?_
              refine lv_icmp_ne (tgt := 61) hx hb d_M_valueOn_50 rfl (fun g50 => ?_) (fun g50 => ?_)
              · have h50 : ¬ (rdk N i b) = d := fun q9 => g50 ((nI_eq (a := rdk N i b) (b := d) (by omega) (by omega)).mpr q9)
                refine lv_iinc (k := 5) (v := nI (i + 1)) (lv' := [(4, .int (nI (i + 1))), (5, .int 1), (0, .ref (q 0)), (1, .int (nI d)), (2, .int (nI b)), (3, .int (rvO N d b (rV z) i))]) hx hb d_M_valueOn_61 hl rfl (nI_add i 1) (by decide) rfl (fun ls hl => ?_)
                refine lv_goto hx hb d_M_valueOn_64 rfl ?_
                have e6 : rvO N d b (rV z) (i + 1) = rvO N d b (rV z) i := by first | rfl | (show (if _ then _ else _) = _; first | exact if_pos ⟨by omega, h50⟩ | exact if_neg (fun w => h50 w.2) | exact if_neg (fun w => by omega))
                exact ih (i + 1) ls (by omega) (by rw [e6]; exact lv_sub hl [2, 3, 4, 5, 0] rfl)
              · have h50 : (rdk N i b) = d := (nI_eq (a := rdk N i b) (b := d) (by omega) (by omega)).mp g50
                refine lv_aload_n hx hb d_M_valueOn_53 rfl (lv_at hl 1 rfl) ?_
                refine va_get (D := D) (ci := 4) (v := .ref (q 3)) (C := R_M) (T := T_M) (N := 16) hx hb hts (in_M) hown hK hP 0 rfl rfl 11 (by decide) (hts _ m_f_M_16) (fun _ h9 => h9) rfl d_M_valueOn_54 ?_
                refine lv_iload hx hb d_M_valueOn_57 (lv_at hl 5 rfl) ?_
                refine va_iald (n := 10) (f := rV z) hx hb hK hP 3 0 rfl rfl (vp_in_nI (by omega) (by omega)) d_M_valueOn_59 ?_
                refine k_top ((rV z) i) (by rw [show (nI i : Int32).toNatClampNeg = i from nI_clamp (n := i) (by omega)]) ?_
                refine lv_istore_n (lv' := [(3, .int ((rV z) i)), (5, .int 1), (0, .ref (q 0)), (1, .int (nI d)), (2, .int (nI b)), (4, .int (nI i))]) hx hb d_M_valueOn_60 rfl hl (by decide) rfl (fun ls hl => ?_)
                refine lv_iinc (k := 5) (v := nI (i + 1)) (lv' := [(4, .int (nI (i + 1))), (3, .int ((rV z) i)), (5, .int 1), (0, .ref (q 0)), (1, .int (nI d)), (2, .int (nI b))]) hx hb d_M_valueOn_61 hl rfl (nI_add i 1) (by decide) rfl (fun ls hl => ?_)
                refine lv_goto hx hb d_M_valueOn_64 rfl ?_
                have e7 : rvO N d b (rV z) (i + 1) = (rV z) i := by first | rfl | (show (if _ then _ else _) = _; first | exact if_pos ⟨by omega, h50⟩ | exact if_neg (fun w => h50 w.2) | exact if_neg (fun w => by omega))
                exact ih (i + 1) ls (by omega) (by rw [e7]; exact lv_sub hl [3, 4, 5, 1, 0] rfl)
  have e8 : rvO N d b (rV z) 0 = 0 := by first | rfl | (show (if _ then _ else _) = _; first | exact if_pos ⟨by omega, h50⟩ | exact if_neg (fun w => h50 w.2) | exact if_neg (fun w => by omega))
  have e9 : nI 0 = 0 := by first | rfl | (simp [rvO]; done) | omega
  exact L5 10 0 ls (by omega) (by rw [e8, e9]; exact lv_sub hl [2, 3, 4, 1, 0] rfl)
set_option maxHeartbeats 4000000 in
set_option maxRecDepth 100000 in
theorem c_Model_act (l : Launch) (D : va_G) (cA : ClassId) (q : Nat → Nat) (N S : Nat) (z : RS) (gN4 : 4 ≤ N) (gN : N ≤ 10) (gS1 : 1 ≤ S) (gS : S ≤ 16) : Met l y_M_act w_M_act ({ frames := 0, cells := 0, slots := 0, locals := 0 }) (va_Pc [.ref (q 0)] (k_Wc D [(cA, .int)] (wM cA q N S z))) (va_Qi (fun (r : Int32) (_ : Unit) => r = bi ((rAct z).1)) (fun _ t => va_P D vwCl (wM cA q N S ((rAct z).2)) t.heap) (k_A (wM cA q N S z))) 0 0 (k_A (wM cA q N S z)) := by
  refine Met.ofW (cc := b_M_act) (maxL := 1) (ret := (some .boolean)) (by decide) rfl ?_
  intro p e s m args below meth c s₁ B hml hv
  obtain ⟨rfl, hP, hK, hD0⟩ := hv
  have hx := B.exec
  have hb := B.bytes
  have hr := B.returns
  have hts0 := atoms_spec (ws := w_M_act) B.pre
  have hts : ∀ w ∈ lw_g, w.before _ s = true := fun w h => hts0 w (List.mem_cons_of_mem _ h)
  have hown : s.vm.findClass R_M = some m.cls := findClass_of_methodNamed B.named
  have hlocks := B.notSynchronized
  have hD := k_Dself hD0
  have hDD := hD
  have hS : va_S (k_A (wM cA q N S z)) s.heap s.heap [] := va_S.rf
  have hl := lv_entry ([.ref (q 0)]) (n := 1) (Nat.le_of_ble_eq_true rfl)
  rw [lg_entry_eq]
  generalize (lg_sl ([.ref (q 0)]) ++ List.replicate (1 - (lg_sl ([.ref (q 0)])).length) Slot.unset).toArray = ls at hl ⊢
  have hl : lv_has ls 1 [(0, .ref (q 0))] := hl
  refine lv_aload_n hx hb d_M_act_0 rfl (lv_at hl 0 rfl) ?_
  refine va_get (D := D) (ci := 4) (v := .int (rAr z)) (C := R_M) (T := T_M) (N := 16) hx hb hts (in_M) hown hK hP 0 rfl rfl 4 (by decide) (hts _ m_f_M_66) (fun _ h9 => h9) rfl d_M_act_1 ?_
  refine lv_if_eq (tgt := 26) hx hb d_M_act_4 rfl (fun g4 => ?_) (fun g4 => ?_)
  · refine lv_aload_n hx hb d_M_act_26 rfl (lv_at hl 0 rfl) ?_
    refine lv_dup hx hb d_M_act_27 rfl ?_
    refine va_get (D := D) (ci := 4) (v := .int (rUn z)) (C := R_M) (T := T_M) (N := 16) hx hb hts (in_M) hown hK hP 0 rfl rfl 5 (by decide) (hts _ m_f_M_70) (fun _ h9 => h9) rfl d_M_act_28 ?_
    refine lv_iconst (v := 1) hx hb d_M_act_31 (by decide) ?_
    refine lv_isub hx hb d_M_act_32 ?_
    refine va_put (D := D) (ci := 4) (v := .int ((rUn z) - 1)) (ty := .int) (C := R_M) (T := T_M) (N := 16) hx hb hts (in_M) ty_M tyok_M nm_M hown hK hP hD hS 0 rfl rfl 5 (by decide) (hts _ m_f_M_70) (fun _ h9 => h9) rfl (by decide +kernel) rfl rfl (Nat.le_of_ble_eq_true rfl) d_M_act_33 (fun H locs hP hD hS => ?_)
    have hP : va_P D vwCl (wM cA q N S (tUn z ((rUn z) - 1))) H := hP
    have hD : va_D (k_A (wM cA q N S z)) (wM cA q N S (tUn z ((rUn z) - 1))) := wM_D hDD
    refine lv_aload_n hx hb d_M_act_36 rfl (lv_at hl 0 rfl) ?_
    refine lv_dup hx hb d_M_act_37 rfl ?_
    refine va_get (D := D) (ci := 4) (v := .int (rMd (tUn z ((rUn z) - 1)))) (C := R_M) (T := T_M) (N := 16) hx hb hts (in_M) hown hK hP 0 rfl rfl 6 (by decide) (hts _ m_f_M_76) (fun _ h9 => h9) rfl d_M_act_38 ?_
    refine k_top (rMd z) (by repeat (first | rw [rMd_tUn])) ?_
    refine lv_iconst (v := 1) hx hb d_M_act_41 (by decide) ?_
    refine lv_iadd hx hb d_M_act_42 ?_
    refine va_put (D := D) (ci := 4) (v := .int ((rMd z) + 1)) (ty := .int) (C := R_M) (T := T_M) (N := 16) hx hb hts (in_M) ty_M tyok_M nm_M hown hK hP hD hS 0 rfl rfl 6 (by decide) (hts _ m_f_M_76) (fun _ h9 => h9) rfl (by decide +kernel) rfl rfl (Nat.le_of_ble_eq_true rfl) d_M_act_43 (fun H locs hP hD hS => ?_)
    have hP : va_P D vwCl (wM cA q N S (tMd (tUn z ((rUn z) - 1)) ((rMd z) + 1))) H := hP
    have hD : va_D (k_A (wM cA q N S z)) (wM cA q N S (tMd (tUn z ((rUn z) - 1)) ((rMd z) + 1))) := wM_D hDD
    refine lv_iconst (v := 1) hx hb d_M_act_46 (by decide) ?_
    have e1 : (rAct z).2 = tMd (tUn z ((rUn z) - 1)) ((rMd z) + 1) := by first | ((try unfold rAct); (try unfold rStep); (repeat (first | rw [if_pos g4] | rw [if_neg g4] | rw [rRV_n2] | rw [rRA_n] | rw [if_pos (rfl : (0 : Int32) = 0)] | rw [if_neg (show ¬ (-2 : Int32) = 0 by decide)] | rw [if_neg (show ¬ (-3 : Int32) = 0 by decide)] | rw [if_neg (show ¬ true = false by decide)] | rw [if_pos (show false = false from rfl)] | dsimp only)); first | done | rfl) | rfl
    exact W.zret (v := 1) (ty := .boolean) hx hb hr (rfl) (fun t ht hW => ⟨⟨_, (), rfl, by first | ((try unfold rAct); (try unfold rStep); (repeat (first | rw [if_pos g4] | rw [if_neg g4] | rw [rRV_n2] | rw [rRA_n] | rw [if_pos (rfl : (0 : Int32) = 0)] | rw [if_neg (show ¬ (-2 : Int32) = 0 by decide)] | rw [if_neg (show ¬ (-3 : Int32) = 0 by decide)] | rw [if_neg (show ¬ true = false by decide)] | rw [if_pos (show false = false from rfl)] | dsimp only)); first | done | rfl) | rfl, by show va_P D vwCl (wM cA q N S ((rAct z).2)) t.heap; rw [ht, e1]; exact hP⟩, hS.F ht⟩) hS.2.2 d_M_act_47
  · refine lv_aload_n hx hb d_M_act_7 rfl (lv_at hl 0 rfl) ?_
    refine va_get (D := D) (ci := 4) (v := .int (rUn z)) (C := R_M) (T := T_M) (N := 16) hx hb hts (in_M) hown hK hP 0 rfl rfl 5 (by decide) (hts _ m_f_M_70) (fun _ h9 => h9) rfl d_M_act_8 ?_
    refine lv_if_ne (tgt := 26) hx hb d_M_act_11 rfl (fun g11 => ?_) (fun g11 => ?_)
    · refine lv_aload_n hx hb d_M_act_26 rfl (lv_at hl 0 rfl) ?_
      refine lv_dup hx hb d_M_act_27 rfl ?_
      refine va_get (D := D) (ci := 4) (v := .int (rUn z)) (C := R_M) (T := T_M) (N := 16) hx hb hts (in_M) hown hK hP 0 rfl rfl 5 (by decide) (hts _ m_f_M_70) (fun _ h9 => h9) rfl d_M_act_28 ?_
      refine lv_iconst (v := 1) hx hb d_M_act_31 (by decide) ?_
      refine lv_isub hx hb d_M_act_32 ?_
      refine va_put (D := D) (ci := 4) (v := .int ((rUn z) - 1)) (ty := .int) (C := R_M) (T := T_M) (N := 16) hx hb hts (in_M) ty_M tyok_M nm_M hown hK hP hD hS 0 rfl rfl 5 (by decide) (hts _ m_f_M_70) (fun _ h9 => h9) rfl (by decide +kernel) rfl rfl (Nat.le_of_ble_eq_true rfl) d_M_act_33 (fun H locs hP hD hS => ?_)
      have hP : va_P D vwCl (wM cA q N S (tUn z ((rUn z) - 1))) H := hP
      have hD : va_D (k_A (wM cA q N S z)) (wM cA q N S (tUn z ((rUn z) - 1))) := wM_D hDD
      refine lv_aload_n hx hb d_M_act_36 rfl (lv_at hl 0 rfl) ?_
      refine lv_dup hx hb d_M_act_37 rfl ?_
      refine va_get (D := D) (ci := 4) (v := .int (rMd (tUn z ((rUn z) - 1)))) (C := R_M) (T := T_M) (N := 16) hx hb hts (in_M) hown hK hP 0 rfl rfl 6 (by decide) (hts _ m_f_M_76) (fun _ h9 => h9) rfl d_M_act_38 ?_
      refine k_top (rMd z) (by repeat (first | rw [rMd_tUn])) ?_
      refine lv_iconst (v := 1) hx hb d_M_act_41 (by decide) ?_
      refine lv_iadd hx hb d_M_act_42 ?_
      refine va_put (D := D) (ci := 4) (v := .int ((rMd z) + 1)) (ty := .int) (C := R_M) (T := T_M) (N := 16) hx hb hts (in_M) ty_M tyok_M nm_M hown hK hP hD hS 0 rfl rfl 6 (by decide) (hts _ m_f_M_76) (fun _ h9 => h9) rfl (by decide +kernel) rfl rfl (Nat.le_of_ble_eq_true rfl) d_M_act_43 (fun H locs hP hD hS => ?_)
      have hP : va_P D vwCl (wM cA q N S (tMd (tUn z ((rUn z) - 1)) ((rMd z) + 1))) H := hP
      have hD : va_D (k_A (wM cA q N S z)) (wM cA q N S (tMd (tUn z ((rUn z) - 1)) ((rMd z) + 1))) := wM_D hDD
      refine lv_iconst (v := 1) hx hb d_M_act_46 (by decide) ?_
      have e2 : (rAct z).2 = tMd (tUn z ((rUn z) - 1)) ((rMd z) + 1) := by first | ((try unfold rAct); (try unfold rStep); (repeat (first | rw [if_pos g4] | rw [if_neg g4] | rw [if_pos g11] | rw [if_neg g11] | rw [rRV_n2] | rw [rRA_n] | rw [if_pos (rfl : (0 : Int32) = 0)] | rw [if_neg (show ¬ (-2 : Int32) = 0 by decide)] | rw [if_neg (show ¬ (-3 : Int32) = 0 by decide)] | rw [if_neg (show ¬ true = false by decide)] | rw [if_pos (show false = false from rfl)] | dsimp only)); first | done | rfl) | rfl
      exact W.zret (v := 1) (ty := .boolean) hx hb hr (rfl) (fun t ht hW => ⟨⟨_, (), rfl, by first | ((try unfold rAct); (try unfold rStep); (repeat (first | rw [if_pos g4] | rw [if_neg g4] | rw [if_pos g11] | rw [if_neg g11] | rw [rRV_n2] | rw [rRA_n] | rw [if_pos (rfl : (0 : Int32) = 0)] | rw [if_neg (show ¬ (-2 : Int32) = 0 by decide)] | rw [if_neg (show ¬ (-3 : Int32) = 0 by decide)] | rw [if_neg (show ¬ true = false by decide)] | rw [if_pos (show false = false from rfl)] | dsimp only)); first | done | rfl) | rfl, by show va_P D vwCl (wM cA q N S ((rAct z).2)) t.heap; rw [ht, e2]; exact hP⟩, hS.F ht⟩) hS.2.2 d_M_act_47
    · refine lv_aload_n hx hb d_M_act_14 rfl (lv_at hl 0 rfl) ?_
      refine lv_iconst (v := 0) hx hb d_M_act_15 (by decide) ?_
      refine va_put (D := D) (ci := 4) (v := .int 0) (ty := .boolean) (C := R_M) (T := T_M) (N := 16) hx hb hts (in_M) ty_M tyok_M nm_M hown hK hP hD hS 0 rfl rfl 4 (by decide) (hts _ m_f_M_66) (fun _ h9 => h9) rfl (by decide +kernel) rfl rfl (Nat.le_of_ble_eq_true rfl) d_M_act_16 (fun H locs hP hD hS => ?_)
      have hP : va_P D vwCl (wM cA q N S (tAr z 0)) H := hP
      have hD : va_D (k_A (wM cA q N S z)) (wM cA q N S (tAr z 0)) := wM_D hDD
      refine lv_aload_n hx hb d_M_act_19 rfl (lv_at hl 0 rfl) ?_
      refine lv_iconst (v := 1) hx hb d_M_act_20 (by decide) ?_
      refine va_put (D := D) (ci := 4) (v := .int 1) (ty := .boolean) (C := R_M) (T := T_M) (N := 16) hx hb hts (in_M) ty_M tyok_M nm_M hown hK hP hD hS 0 rfl rfl 3 (by decide) (hts _ m_f_M_73) (fun _ h9 => h9) rfl (by decide +kernel) rfl rfl (Nat.le_of_ble_eq_true rfl) d_M_act_21 (fun H locs hP hD hS => ?_)
      have hP : va_P D vwCl (wM cA q N S (tDn (tAr z 0) 1)) H := hP
      have hD : va_D (k_A (wM cA q N S z)) (wM cA q N S (tDn (tAr z 0) 1)) := wM_D hDD
      refine lv_iconst (v := 0) hx hb d_M_act_24 (by decide) ?_
      have e3 : (rAct z).2 = tDn (tAr z 0) 1 := by first | ((try unfold rAct); (try unfold rStep); (repeat (first | rw [if_pos g4] | rw [if_neg g4] | rw [if_pos g11] | rw [if_neg g11] | rw [rRV_n2] | rw [rRA_n] | rw [if_pos (rfl : (0 : Int32) = 0)] | rw [if_neg (show ¬ (-2 : Int32) = 0 by decide)] | rw [if_neg (show ¬ (-3 : Int32) = 0 by decide)] | rw [if_neg (show ¬ true = false by decide)] | rw [if_pos (show false = false from rfl)] | dsimp only)); first | done | rfl) | rfl
      exact W.zret (v := 0) (ty := .boolean) hx hb hr (rfl) (fun t ht hW => ⟨⟨_, (), rfl, by first | ((try unfold rAct); (try unfold rStep); (repeat (first | rw [if_pos g4] | rw [if_neg g4] | rw [if_pos g11] | rw [if_neg g11] | rw [rRV_n2] | rw [rRA_n] | rw [if_pos (rfl : (0 : Int32) = 0)] | rw [if_neg (show ¬ (-2 : Int32) = 0 by decide)] | rw [if_neg (show ¬ (-3 : Int32) = 0 by decide)] | rw [if_neg (show ¬ true = false by decide)] | rw [if_pos (show false = false from rfl)] | dsimp only)); first | done | rfl) | rfl, by show va_P D vwCl (wM cA q N S ((rAct z).2)) t.heap; rw [ht, e3]; exact hP⟩, hS.F ht⟩) hS.2.2 d_M_act_25
set_option maxHeartbeats 4000000 in
set_option maxRecDepth 100000 in
theorem c_Model_store (l : Launch) (D : va_G) (cA : ClassId) (q : Nat → Nat) (N S : Nat) (z : RS) (gN4 : 4 ≤ N) (gN : N ≤ 10) (gS1 : 1 ≤ S) (gS : S ≤ 16) (a b : Nat) (w : Int32) (ha : a < 10) (hb1 : b < S) : Met l y_M_store w_M_store ({ frames := 2, cells := 0, slots := 0, locals := 45 }) (va_Pc [.ref (q 0), .int (nI a), .int (nI b), .int w] (k_Wc D [(cA, .int)] (wM cA q N S z))) (va_Qi (fun (r : Int32) (_ : Unit) => r = bi ((rSt N a b w z).1)) (fun _ t => va_P D vwCl (wM cA q N S ((rSt N a b w z).2)) t.heap) (k_A (wM cA q N S z))) 0 0 (k_A (wM cA q N S z)) := by
  refine Met.ofW (cc := b_M_store) (maxL := 4) (ret := (some .boolean)) (by decide) rfl ?_
  intro p e s m args below meth c s₁ B hml hv
  obtain ⟨rfl, hP, hK, hD0⟩ := hv
  have hx := B.exec
  have hb := B.bytes
  have hr := B.returns
  have hts0 := atoms_spec (ws := w_M_store) B.pre
  have hts : ∀ w ∈ lw_g, w.before _ s = true := fun w h => hts0 w (List.mem_cons_of_mem _ h)
  have hown : s.vm.findClass R_M = some m.cls := findClass_of_methodNamed B.named
  have hlocks := B.notSynchronized
  have hD := k_Dself hD0
  have hDD := hD
  have hS : va_S (k_A (wM cA q N S z)) s.heap s.heap [] := va_S.rf
  have hl := lv_entry ([.ref (q 0), .int (nI a), .int (nI b), .int w]) (n := 4) (Nat.le_of_ble_eq_true rfl)
  rw [lg_entry_eq]
  generalize (lg_sl ([.ref (q 0), .int (nI a), .int (nI b), .int w]) ++ List.replicate (4 - (lg_sl ([.ref (q 0), .int (nI a), .int (nI b), .int w])).length) Slot.unset).toArray = ls at hl ⊢
  have hl : lv_has ls 4 [(0, .ref (q 0)), (1, .int (nI a)), (2, .int (nI b)), (3, .int w)] := hl
  refine lv_aload_n hx hb d_M_store_0 rfl (lv_at hl 0 rfl) ?_
  refine lv_iload_n hx hb d_M_store_1 rfl (lv_at hl 1 rfl) ?_
  refine lv_iload_n hx hb d_M_store_2 rfl (lv_at hl 2 rfl) ?_
  refine k_roi (va_runV (C := R_M) (As := [.int (nI a), .int (nI b)]) (rest := []) ⟨hx, hb, hml, hown, hts⟩ (c_Model_has l D cA q N S z (by omega) (by omega) (by omega) (by omega) a b (by omega) (by omega)) (k_cwV 2 hts m_code_M_has m_ini_M m_l_M_45 m_inst_M_has m_sel_M_has h_M_has rfl rfl ⟨Nat.le_of_ble_eq_true rfl, Nat.le_of_ble_eq_true rfl⟩) (k_pR hP hK [0, 1, 2, 3, 4] rfl 0 4 rfl rfl) rfl rfl hl.1 rfl (lv_room (Nat.le_of_ble_eq_true rfl)) d_M_store_3 ⟨Nat.zero_le _, Nat.zero_le _⟩) ?_
  refine lv_if_ne (tgt := 11) hx hb d_M_store_6 rfl (fun g6 => ?_) (fun g6 => ?_)
  · have h6 := of_decide_eq_true (bi_nz.mp g6)
    refine lv_aload_n hx hb d_M_store_11 rfl (lv_at hl 0 rfl) ?_
    refine k_wri (va_runV (C := R_M) (As := []) (rest := []) ⟨hx, hb, hml, hown, hts⟩ (c_Model_act l D cA q N S z (by omega) (by omega) (by omega) (by omega)) (k_cwV 0 hts m_code_M_act m_ini_M m_l_M_79 m_inst_M_act m_sel_M_act h_M_act rfl rfl ⟨Nat.le_of_ble_eq_true rfl, Nat.le_of_ble_eq_true rfl⟩) (k_pW hP hK hD [0, 1, 2, 3, 4] (by decide) rfl 0 4 rfl rfl) rfl rfl hl.1 rfl (lv_room (Nat.le_of_ble_eq_true rfl)) d_M_store_12 ⟨Nat.zero_le _, Nat.zero_le _⟩) hS hD [0, 1, 2, 3, 4] rfl (fun r u H1 locs hp hk hP1 hS => ?_)
    subst hp
    obtain ⟨u1, hu1⟩ : ∃ w, w = (rAct z).2 := ⟨_, rfl⟩
    have hP : va_P D vwCl (wM cA q N S u1) H1 := by rw [hu1]; exact hP1
    have hD : va_D (k_A (wM cA q N S z)) (wM cA q N S u1) := wM_D hDD
    generalize H1 = H at hP hS ⊢
    refine lv_if_ne (tgt := 20) hx hb d_M_store_15 rfl (fun g15 => ?_) (fun g15 => ?_)
    · have h15 := bi_nz.mp g15
      refine lv_aload_n hx hb d_M_store_20 rfl (lv_at hl 0 rfl) ?_
      refine va_get (D := D) (ci := 4) (v := .ref (q 1)) (C := R_M) (T := T_M) (N := 16) hx hb hts (in_M) hown hK hP 0 rfl rfl 9 (by decide) (hts _ m_f_M_7) (fun _ h9 => h9) rfl d_M_store_21 ?_
      refine lv_bipush (v := 16) hx hb d_M_store_24 (by decide) ?_
      refine lv_aload_n hx hb d_M_store_26 rfl (lv_at hl 0 rfl) ?_
      refine lv_iload_n hx hb d_M_store_27 rfl (lv_at hl 1 rfl) ?_
      refine lv_iload_n hx hb d_M_store_28 rfl (lv_at hl 2 rfl) ?_
      refine k_roi (va_runV (C := R_M) (As := [.int (nI a), .int (nI b)]) (rest := [.int 16, .ref (q 1)]) ⟨hx, hb, hml, hown, hts⟩ (c_Model_diskOf l D cA q N S u1 (by omega) (by omega) (by omega) (by omega) a b (by omega) (by omega)) (k_cwV 2 hts m_code_M_diskOf m_ini_M m_l_M_39 m_inst_M_diskOf m_sel_M_diskOf h_M_diskOf rfl rfl ⟨Nat.le_of_ble_eq_true rfl, Nat.le_of_ble_eq_true rfl⟩) (k_pR hP hK [0, 1, 2, 3, 4] rfl 0 4 rfl rfl) rfl rfl hl.1 rfl (lv_room (Nat.le_of_ble_eq_true rfl)) d_M_store_29 ⟨Nat.zero_le _, Nat.zero_le _⟩) ?_
      have f2 : rdk N a b < N := rdk_lt (by omega)
      refine lv_imul hx hb d_M_store_32 ?_
      refine k_top (nI (16 * (rdk N a b))) (pk_mul 16 (rdk N a b)) ?_
      refine lv_iload_n hx hb d_M_store_33 rfl (lv_at hl 2 rfl) ?_
      refine lv_iadd hx hb d_M_store_34 ?_
      refine k_top (nI (16 * (rdk N a b) + b)) (nI_add (16 * (rdk N a b)) b) ?_
      refine lv_iload_n hx hb d_M_store_35 rfl (lv_at hl 3 rfl) ?_
      refine va_iast (n := 160) (f := rW u1) hx hb hK hP hD hS 1 0 rfl rfl (vp_in_nI (by omega) (by omega)) d_M_store_36 (fun H locs hP hD hS => ?_)
      rw [show (nI (16 * (rdk N a b) + b) : Int32).toNatClampNeg = 16 * (rdk N a b) + b from nI_clamp (n := 16 * (rdk N a b) + b) (by omega)] at hP hD
      have hP : va_P D vwCl (wM cA q N S (tW u1 (upd (rW u1) (16 * (rdk N a b) + b) w))) H := wM_tW hP
      have hD : va_D (k_A (wM cA q N S z)) (wM cA q N S (tW u1 (upd (rW u1) (16 * (rdk N a b) + b) w))) := wM_D hDD
      refine lv_aload_n hx hb d_M_store_37 rfl (lv_at hl 0 rfl) ?_
      refine lv_dup hx hb d_M_store_38 rfl ?_
      refine va_get (D := D) (ci := 4) (v := .int (rWc (tW u1 (upd (rW u1) (16 * (rdk N a b) + b) w)))) (C := R_M) (T := T_M) (N := 16) hx hb hts (in_M) hown hK hP 0 rfl rfl 8 (by decide) (hts _ m_f_M_83) (fun _ h9 => h9) rfl d_M_store_39 ?_
      refine k_top (rWc u1) (by repeat (first | rw [rWc_tW])) ?_
      refine lv_iconst (v := 1) hx hb d_M_store_42 (by decide) ?_
      refine lv_iadd hx hb d_M_store_43 ?_
      refine va_put (D := D) (ci := 4) (v := .int ((rWc u1) + 1)) (ty := .int) (C := R_M) (T := T_M) (N := 16) hx hb hts (in_M) ty_M tyok_M nm_M hown hK hP hD hS 0 rfl rfl 8 (by decide) (hts _ m_f_M_83) (fun _ h9 => h9) rfl (by decide +kernel) rfl rfl (Nat.le_of_ble_eq_true rfl) d_M_store_44 (fun H locs hP hD hS => ?_)
      have hP : va_P D vwCl (wM cA q N S (tWc (tW u1 (upd (rW u1) (16 * (rdk N a b) + b) w)) ((rWc u1) + 1))) H := hP
      have hD : va_D (k_A (wM cA q N S z)) (wM cA q N S (tWc (tW u1 (upd (rW u1) (16 * (rdk N a b) + b) w)) ((rWc u1) + 1))) := wM_D hDD
      refine lv_iconst (v := 1) hx hb d_M_store_47 (by decide) ?_
      have e3 : (rSt N a b w z).2 = tWc (tW u1 (upd (rW u1) (16 * (rdk N a b) + b) w)) ((rWc u1) + 1) := by subst hu1; first | ((try unfold rSt); (try unfold rPut); (repeat (first | rw [if_pos g6] | rw [if_neg g6] | rw [if_pos h6] | rw [if_neg h6] | rw [if_pos g15] | rw [if_neg g15] | rw [if_pos h15] | rw [h15] | rw [rRV_n2] | rw [rRA_n] | rw [if_pos (rfl : (0 : Int32) = 0)] | rw [if_neg (show ¬ (-2 : Int32) = 0 by decide)] | rw [if_neg (show ¬ (-3 : Int32) = 0 by decide)] | rw [if_neg (show ¬ true = false by decide)] | rw [if_pos (show false = false from rfl)] | dsimp only)); first | done | rfl) | rfl
      exact W.zret (v := 1) (ty := .boolean) hx hb hr (rfl) (fun t ht hW => ⟨⟨_, (), rfl, by subst hu1; first | ((try unfold rSt); (try unfold rPut); (repeat (first | rw [if_pos g6] | rw [if_neg g6] | rw [if_pos h6] | rw [if_neg h6] | rw [if_pos g15] | rw [if_neg g15] | rw [if_pos h15] | rw [h15] | rw [rRV_n2] | rw [rRA_n] | rw [if_pos (rfl : (0 : Int32) = 0)] | rw [if_neg (show ¬ (-2 : Int32) = 0 by decide)] | rw [if_neg (show ¬ (-3 : Int32) = 0 by decide)] | rw [if_neg (show ¬ true = false by decide)] | rw [if_pos (show false = false from rfl)] | dsimp only)); first | done | rfl) | rfl, by show va_P D vwCl (wM cA q N S ((rSt N a b w z).2)) t.heap; rw [ht, e3]; exact hP⟩, hS.F ht⟩) hS.2.2 d_M_store_48
    · have h15 := bi_z.mp g15
      refine lv_iconst (v := 0) hx hb d_M_store_18 (by decide) ?_
      have e4 : (rSt N a b w z).2 = u1 := by subst hu1; first | ((try unfold rSt); (try unfold rPut); (repeat (first | rw [if_pos g6] | rw [if_neg g6] | rw [if_pos h6] | rw [if_neg h6] | rw [if_pos g15] | rw [if_neg g15] | rw [if_pos h15] | rw [h15] | rw [rRV_n2] | rw [rRA_n] | rw [if_pos (rfl : (0 : Int32) = 0)] | rw [if_neg (show ¬ (-2 : Int32) = 0 by decide)] | rw [if_neg (show ¬ (-3 : Int32) = 0 by decide)] | rw [if_neg (show ¬ true = false by decide)] | rw [if_pos (show false = false from rfl)] | dsimp only)); first | done | rfl) | rfl
      exact W.zret (v := 0) (ty := .boolean) hx hb hr (rfl) (fun t ht hW => ⟨⟨_, (), rfl, by subst hu1; first | ((try unfold rSt); (try unfold rPut); (repeat (first | rw [if_pos g6] | rw [if_neg g6] | rw [if_pos h6] | rw [if_neg h6] | rw [if_pos g15] | rw [if_neg g15] | rw [if_pos h15] | rw [h15] | rw [rRV_n2] | rw [rRA_n] | rw [if_pos (rfl : (0 : Int32) = 0)] | rw [if_neg (show ¬ (-2 : Int32) = 0 by decide)] | rw [if_neg (show ¬ (-3 : Int32) = 0 by decide)] | rw [if_neg (show ¬ true = false by decide)] | rw [if_pos (show false = false from rfl)] | dsimp only)); first | done | rfl) | rfl, by show va_P D vwCl (wM cA q N S ((rSt N a b w z).2)) t.heap; rw [ht, e4]; exact hP⟩, hS.F ht⟩) hS.2.2 d_M_store_19
  · have h6 := of_decide_eq_false (bi_z.mp g6)
    refine lv_iconst (v := 1) hx hb d_M_store_9 (by decide) ?_
    have e5 : (rSt N a b w z).2 = z := by first | ((try unfold rSt); (try unfold rPut); (repeat (first | rw [if_pos g6] | rw [if_neg g6] | rw [if_pos h6] | rw [if_neg h6] | rw [rRV_n2] | rw [rRA_n] | rw [if_pos (rfl : (0 : Int32) = 0)] | rw [if_neg (show ¬ (-2 : Int32) = 0 by decide)] | rw [if_neg (show ¬ (-3 : Int32) = 0 by decide)] | rw [if_neg (show ¬ true = false by decide)] | rw [if_pos (show false = false from rfl)] | dsimp only)); first | done | rfl) | rfl
    exact W.zret (v := 1) (ty := .boolean) hx hb hr (rfl) (fun t ht hW => ⟨⟨_, (), rfl, by first | ((try unfold rSt); (try unfold rPut); (repeat (first | rw [if_pos g6] | rw [if_neg g6] | rw [if_pos h6] | rw [if_neg h6] | rw [rRV_n2] | rw [rRA_n] | rw [if_pos (rfl : (0 : Int32) = 0)] | rw [if_neg (show ¬ (-2 : Int32) = 0 by decide)] | rw [if_neg (show ¬ (-3 : Int32) = 0 by decide)] | rw [if_neg (show ¬ true = false by decide)] | rw [if_pos (show false = false from rfl)] | dsimp only)); first | done | rfl) | rfl, by show va_P D vwCl (wM cA q N S ((rSt N a b w z).2)) t.heap; rw [ht, e5]; exact hP⟩, hS.F ht⟩) hS.2.2 d_M_store_10
set_option maxHeartbeats 4000000 in
set_option maxRecDepth 100000 in
theorem c_Model_apply (l : Launch) (D : va_G) (cA : ClassId) (q : Nat → Nat) (N S : Nat) (z : RS) (gN4 : 4 ≤ N) (gN : N ≤ 10) (gS1 : 1 ≤ S) (gS : S ≤ 16) (b f e1 : Nat) (hb1 : b < S) (hfe : f ≤ e1) (he1 : e1 ≤ N - 2) (hls : rLs z = nI b) (hlf : rLf z = nI f) (hlt : rLt z = nI e1) : Met l y_M_apply w_M_apply ({ frames := 3, cells := 0, slots := 0, locals := 68 }) (va_Pc [.ref (q 0)] (k_Wc D [(cA, .int)] (wM cA q N S z))) (va_Qi (fun (r : Int32) (_ : Unit) => r = bi ((rAp N b f e1 z).1)) (fun _ t => va_P D vwCl (wM cA q N S ((rAp N b f e1 z).2)) t.heap) (k_A (wM cA q N S z))) 0 0 (k_A (wM cA q N S z)) := by
  refine Met.ofW (cc := b_M_apply) (maxL := 2) (ret := (some .boolean)) (by decide) rfl ?_
  intro p e s m args below meth c s₁ B hml hv
  obtain ⟨rfl, hP, hK, hD0⟩ := hv
  have hx := B.exec
  have hb := B.bytes
  have hr := B.returns
  have hts0 := atoms_spec (ws := w_M_apply) B.pre
  have hts : ∀ w ∈ lw_g, w.before _ s = true := fun w h => hts0 w (List.mem_cons_of_mem _ h)
  have hown : s.vm.findClass R_M = some m.cls := findClass_of_methodNamed B.named
  have hlocks := B.notSynchronized
  have hD := k_Dself hD0
  have hDD := hD
  have hS : va_S (k_A (wM cA q N S z)) s.heap s.heap [] := va_S.rf
  have hl := lv_entry ([.ref (q 0)]) (n := 2) (Nat.le_of_ble_eq_true rfl)
  rw [lg_entry_eq]
  generalize (lg_sl ([.ref (q 0)]) ++ List.replicate (2 - (lg_sl ([.ref (q 0)])).length) Slot.unset).toArray = ls at hl ⊢
  have hl : lv_has ls 2 [(0, .ref (q 0))] := hl
  refine lv_aload_n hx hb d_M_apply_0 rfl (lv_at hl 0 rfl) ?_
  refine va_get (D := D) (ci := 4) (v := .int (rLf z)) (C := R_M) (T := T_M) (N := 16) hx hb hts (in_M) hown hK hP 0 rfl rfl 14 (by decide) (hts _ m_f_M_86) (fun _ h9 => h9) rfl d_M_apply_1 ?_
  refine k_top (nI f) (by exact hlf) ?_
  refine lv_istore_n (lv' := [(1, .int (nI f)), (0, .ref (q 0))]) hx hb d_M_apply_4 rfl hl (by decide) rfl (fun ls hl => ?_)
  have L5 : ∀ (k : Nat) (i : Nat) (zi : RS) (ls : Array Slot) (H : Heap) (locs : List Loc), i + k = e1 → rApL N b e1 (e1 - f) z = rApL N b e1 k zi → lgr zi = lgr z → f ≤ i → lv_has ls 2 [(0, .ref (q 0)), (1, .int (nI i))] → va_P D vwCl (wM cA q N S zi) H → va_S (k_A (wM cA q N S z)) s.heap H locs → W p l e (headSpec w_M_apply ({ frames := 3, cells := 0, slots := 0, locals := 68 })).room s m ([.ref (q 0)] : List Value).toArray below meth c H locs 0 0 (MQ below (va_Qi (fun (r : Int32) (_ : Unit) => r = bi ((rAp N b f e1 z).1)) (fun _ t => va_P D vwCl (wM cA q N S ((rAp N b f e1 z).2)) t.heap) (k_A (wM cA q N S z))) ([.ref (q 0)] : List Value).toArray s 0 0 (k_A (wM cA q N S z))) (F0 m 5 ls []) := by
    intro k
    induction k with
    | zero =>
      intro i zi ls H locs hk hr0 hlg hfi hl hP hS
      have hD : va_D _ (wM cA q N S zi) := wM_D hDD
      obtain rfl : e1 = i := by omega
      have hl1 : rLs zi = nI b := (lgr_ls hlg).1.trans hls
      have hl3 : rLt zi = nI e1 := (lgr_ls hlg).2.2.1.trans hlt
      have hr1 : rApL N b e1 (e1 - f) z = (true, zi) := hr0
      refine lv_iload_n hx hb d_M_apply_5 rfl (lv_at hl 1 rfl) ?_
      refine lv_aload_n hx hb d_M_apply_6 rfl (lv_at hl 0 rfl) ?_
      refine va_get (D := D) (ci := 4) (v := .int (rLt zi)) (C := R_M) (T := T_M) (N := 16) hx hb hts (in_M) hown hK hP 0 rfl rfl 15 (by decide) (hts _ m_f_M_89) (fun _ h9 => h9) rfl d_M_apply_7 ?_
      refine k_top (nI e1) (by exact hl3) ?_
      refine lv_icmp_ge (tgt := 39) hx hb d_M_apply_10 rfl (fun g10 => ?_) (fun g10 => ?_)
      · have h10 : e1 ≤ e1 := (nI_leI (a := e1) (b := e1) (by omega) (by omega)).mp g10
        have k10 : ¬ e1 < e1 := by omega
        refine lv_aload_n hx hb d_M_apply_39 rfl (lv_at hl 0 rfl) ?_
        refine lv_bipush (v := 8) hx hb d_M_apply_40 (by decide) ?_
        refine lv_aload_n hx hb d_M_apply_42 rfl (lv_at hl 0 rfl) ?_
        refine va_get (D := D) (ci := 4) (v := .int (rLs zi)) (C := R_M) (T := T_M) (N := 16) hx hb hts (in_M) hown hK hP 0 rfl rfl 13 (by decide) (hts _ m_f_M_22) (fun _ h9 => h9) rfl d_M_apply_43 ?_
        refine k_top (nI b) (by exact hl1) ?_
        refine lv_aload_n hx hb d_M_apply_46 rfl (lv_at hl 0 rfl) ?_
        refine va_get (D := D) (ci := 4) (v := .ref (q 4)) (C := R_M) (T := T_M) (N := 16) hx hb hts (in_M) hown hK hP 0 rfl rfl 12 (by decide) (hts _ m_f_M_19) (fun _ h9 => h9) rfl d_M_apply_47 ?_
        refine lv_bipush (v := 8) hx hb d_M_apply_50 (by decide) ?_
        refine va_iald (n := 10) (f := rE zi) hx hb hK hP 4 0 rfl rfl (vp_in_nI (n := 8) (by omega) (by omega)) d_M_apply_52 ?_
        refine k_top ((rE zi) 8) (by rw [show (8 : Int32).toNatClampNeg = 8 from nI_clamp (n := 8) (by omega)]) ?_
        refine W.eq (g2 := F0 m 53 ls [.int ((rE zi) 8), .int (nI b), .int (nI 8), .ref (q 0)]) (by rfl) ?_
        refine k_wri (va_runV (C := R_M) (As := [.int (nI 8), .int (nI b), .int ((rE zi) 8)]) (rest := []) ⟨hx, hb, hml, hown, hts⟩ (c_Model_store l D cA q N S zi (by omega) (by omega) (by omega) (by omega) 8 b ((rE zi) 8) (by omega) (by omega)) (k_cwV 3 hts m_code_M_store m_ini_M m_l_M_92 m_inst_M_store m_sel_M_store h_M_store rfl rfl ⟨Nat.le_of_ble_eq_true rfl, Nat.le_of_ble_eq_true rfl⟩) (k_pW hP hK hD [0, 1, 2, 3, 4] (by decide) rfl 0 4 rfl rfl) rfl rfl hl.1 rfl (lv_room (Nat.le_of_ble_eq_true rfl)) d_M_apply_53 ⟨Nat.zero_le _, Nat.zero_le _⟩) hS hD [0, 1, 2, 3, 4] rfl (fun r u H1 locs hp hk hP1 hS => ?_)
        subst hp
        obtain ⟨u1, hu1⟩ : ∃ w, w = (rSt N 8 b ((rE zi) 8) zi).2 := ⟨_, rfl⟩
        have hP : va_P D vwCl (wM cA q N S u1) H1 := by rw [hu1]; exact hP1
        have hD : va_D (k_A (wM cA q N S z)) (wM cA q N S u1) := wM_D hDD
        generalize H1 = H at hP hS ⊢
        have hl4 : rLs u1 = nI b := by rw [hu1]; exact (lgr_ls (lgr_st ..)).1.trans hl1
        refine lv_if_eq (tgt := 86) hx hb d_M_apply_56 rfl (fun g56 => ?_) (fun g56 => ?_)
        · have h56 := bi_z.mp g56
          refine lv_iconst (v := 0) hx hb d_M_apply_86 (by decide) ?_
          have e2 : (rAp N b f e1 z).2 = u1 := by subst hu1; first | ((try unfold rAp); (try unfold rAp1); (try unfold rAp2); (repeat (first | rw [hr1] | rw [if_pos g10] | rw [if_neg g10] | rw [if_pos h10] | rw [if_neg h10] | rw [if_pos k10] | rw [if_neg k10] | rw [if_pos g56] | rw [if_neg g56] | rw [if_pos h56] | rw [h56] | rw [rRV_n2] | rw [rRA_n] | rw [if_pos (rfl : (0 : Int32) = 0)] | rw [if_neg (show ¬ (-2 : Int32) = 0 by decide)] | rw [if_neg (show ¬ (-3 : Int32) = 0 by decide)] | rw [if_neg (show ¬ true = false by decide)] | rw [if_pos (show false = false from rfl)] | dsimp only)); first | done | rfl) | rfl
          exact W.zret (v := 0) (ty := .boolean) hx hb hr (rfl) (fun t ht hW => ⟨⟨_, (), rfl, by subst hu1; first | ((try unfold rAp); (try unfold rAp1); (try unfold rAp2); (repeat (first | rw [hr1] | rw [if_pos g10] | rw [if_neg g10] | rw [if_pos h10] | rw [if_neg h10] | rw [if_pos k10] | rw [if_neg k10] | rw [if_pos g56] | rw [if_neg g56] | rw [if_pos h56] | rw [h56] | rw [rRV_n2] | rw [rRA_n] | rw [if_pos (rfl : (0 : Int32) = 0)] | rw [if_neg (show ¬ (-2 : Int32) = 0 by decide)] | rw [if_neg (show ¬ (-3 : Int32) = 0 by decide)] | rw [if_neg (show ¬ true = false by decide)] | rw [if_pos (show false = false from rfl)] | dsimp only)); first | done | rfl) | rfl, by show va_P D vwCl (wM cA q N S ((rAp N b f e1 z).2)) t.heap; rw [ht, e2]; exact hP⟩, hS.F ht⟩) hS.2.2 d_M_apply_87
        · have h56 := bi_nz.mp g56
          refine lv_aload_n hx hb d_M_apply_59 rfl (lv_at hl 0 rfl) ?_
          refine lv_bipush (v := 9) hx hb d_M_apply_60 (by decide) ?_
          refine lv_aload_n hx hb d_M_apply_62 rfl (lv_at hl 0 rfl) ?_
          refine va_get (D := D) (ci := 4) (v := .int (rLs u1)) (C := R_M) (T := T_M) (N := 16) hx hb hts (in_M) hown hK hP 0 rfl rfl 13 (by decide) (hts _ m_f_M_22) (fun _ h9 => h9) rfl d_M_apply_63 ?_
          refine k_top (nI b) (by exact hl4) ?_
          refine lv_aload_n hx hb d_M_apply_66 rfl (lv_at hl 0 rfl) ?_
          refine va_get (D := D) (ci := 4) (v := .ref (q 4)) (C := R_M) (T := T_M) (N := 16) hx hb hts (in_M) hown hK hP 0 rfl rfl 12 (by decide) (hts _ m_f_M_19) (fun _ h9 => h9) rfl d_M_apply_67 ?_
          refine lv_bipush (v := 9) hx hb d_M_apply_70 (by decide) ?_
          refine va_iald (n := 10) (f := rE u1) hx hb hK hP 4 0 rfl rfl (vp_in_nI (n := 9) (by omega) (by omega)) d_M_apply_72 ?_
          refine k_top ((rE u1) 9) (by rw [show (9 : Int32).toNatClampNeg = 9 from nI_clamp (n := 9) (by omega)]) ?_
          refine W.eq (g2 := F0 m 73 ls [.int ((rE u1) 9), .int (nI b), .int (nI 9), .ref (q 0)]) (by rfl) ?_
          refine k_wri (va_runV (C := R_M) (As := [.int (nI 9), .int (nI b), .int ((rE u1) 9)]) (rest := []) ⟨hx, hb, hml, hown, hts⟩ (c_Model_store l D cA q N S u1 (by omega) (by omega) (by omega) (by omega) 9 b ((rE u1) 9) (by omega) (by omega)) (k_cwV 3 hts m_code_M_store m_ini_M m_l_M_92 m_inst_M_store m_sel_M_store h_M_store rfl rfl ⟨Nat.le_of_ble_eq_true rfl, Nat.le_of_ble_eq_true rfl⟩) (k_pW hP hK hD [0, 1, 2, 3, 4] (by decide) rfl 0 4 rfl rfl) rfl rfl hl.1 rfl (lv_room (Nat.le_of_ble_eq_true rfl)) d_M_apply_73 ⟨Nat.zero_le _, Nat.zero_le _⟩) hS hD [0, 1, 2, 3, 4] rfl (fun r u H1 locs hp hk hP1 hS => ?_)
          subst hp
          obtain ⟨u3, hu3⟩ : ∃ w, w = (rSt N 9 b ((rE u1) 9) u1).2 := ⟨_, rfl⟩
          have hP : va_P D vwCl (wM cA q N S u3) H1 := by rw [hu3]; exact hP1
          have hD : va_D (k_A (wM cA q N S z)) (wM cA q N S u3) := wM_D hDD
          generalize H1 = H at hP hS ⊢
          refine lv_if_eq (tgt := 86) hx hb d_M_apply_76 rfl (fun g76 => ?_) (fun g76 => ?_)
          · have h76 := bi_z.mp g76
            refine lv_iconst (v := 0) hx hb d_M_apply_86 (by decide) ?_
            have e4 : (rAp N b f e1 z).2 = u3 := by subst hu3; subst hu1; first | ((try unfold rAp); (try unfold rAp1); (try unfold rAp2); (repeat (first | rw [hr1] | rw [if_pos g10] | rw [if_neg g10] | rw [if_pos h10] | rw [if_neg h10] | rw [if_pos k10] | rw [if_neg k10] | rw [if_pos g56] | rw [if_neg g56] | rw [if_pos h56] | rw [h56] | rw [if_pos g76] | rw [if_neg g76] | rw [if_pos h76] | rw [h76] | rw [rRV_n2] | rw [rRA_n] | rw [if_pos (rfl : (0 : Int32) = 0)] | rw [if_neg (show ¬ (-2 : Int32) = 0 by decide)] | rw [if_neg (show ¬ (-3 : Int32) = 0 by decide)] | rw [if_neg (show ¬ true = false by decide)] | rw [if_pos (show false = false from rfl)] | dsimp only)); first | done | rfl) | rfl
            exact W.zret (v := 0) (ty := .boolean) hx hb hr (rfl) (fun t ht hW => ⟨⟨_, (), rfl, by subst hu3; subst hu1; first | ((try unfold rAp); (try unfold rAp1); (try unfold rAp2); (repeat (first | rw [hr1] | rw [if_pos g10] | rw [if_neg g10] | rw [if_pos h10] | rw [if_neg h10] | rw [if_pos k10] | rw [if_neg k10] | rw [if_pos g56] | rw [if_neg g56] | rw [if_pos h56] | rw [h56] | rw [if_pos g76] | rw [if_neg g76] | rw [if_pos h76] | rw [h76] | rw [rRV_n2] | rw [rRA_n] | rw [if_pos (rfl : (0 : Int32) = 0)] | rw [if_neg (show ¬ (-2 : Int32) = 0 by decide)] | rw [if_neg (show ¬ (-3 : Int32) = 0 by decide)] | rw [if_neg (show ¬ true = false by decide)] | rw [if_pos (show false = false from rfl)] | dsimp only)); first | done | rfl) | rfl, by show va_P D vwCl (wM cA q N S ((rAp N b f e1 z).2)) t.heap; rw [ht, e4]; exact hP⟩, hS.F ht⟩) hS.2.2 d_M_apply_87
          · have h76 := bi_nz.mp g76
            refine lv_aload_n hx hb d_M_apply_79 rfl (lv_at hl 0 rfl) ?_
            refine k_wri (va_runV (C := R_M) (As := []) (rest := []) ⟨hx, hb, hml, hown, hts⟩ (c_Model_act l D cA q N S u3 (by omega) (by omega) (by omega) (by omega)) (k_cwV 0 hts m_code_M_act m_ini_M m_l_M_79 m_inst_M_act m_sel_M_act h_M_act rfl rfl ⟨Nat.le_of_ble_eq_true rfl, Nat.le_of_ble_eq_true rfl⟩) (k_pW hP hK hD [0, 1, 2, 3, 4] (by decide) rfl 0 4 rfl rfl) rfl rfl hl.1 rfl (lv_room (Nat.le_of_ble_eq_true rfl)) d_M_apply_80 ⟨Nat.zero_le _, Nat.zero_le _⟩) hS hD [0, 1, 2, 3, 4] rfl (fun r u H1 locs hp hk hP1 hS => ?_)
            subst hp
            obtain ⟨u5, hu5⟩ : ∃ w, w = (rAct u3).2 := ⟨_, rfl⟩
            have hP : va_P D vwCl (wM cA q N S u5) H1 := by rw [hu5]; exact hP1
            have hD : va_D (k_A (wM cA q N S z)) (wM cA q N S u5) := wM_D hDD
            generalize H1 = H at hP hS ⊢
            refine lv_if_ne (tgt := 88) hx hb d_M_apply_83 rfl (fun g83 => ?_) (fun g83 => ?_)
            · have h83 := bi_nz.mp g83
              refine lv_aload_n hx hb d_M_apply_88 rfl (lv_at hl 0 rfl) ?_
              refine lv_iconst (v := (-1)) hx hb d_M_apply_89 (by decide) ?_
              refine va_put (D := D) (ci := 4) (v := .int (-1)) (ty := .int) (C := R_M) (T := T_M) (N := 16) hx hb hts (in_M) ty_M tyok_M nm_M hown hK hP hD hS 0 rfl rfl 13 (by decide) (hts _ m_f_M_22) (fun _ h9 => h9) rfl (by decide +kernel) rfl rfl (Nat.le_of_ble_eq_true rfl) d_M_apply_90 (fun H locs hP hD hS => ?_)
              have hP : va_P D vwCl (wM cA q N S (tLs u5 (-1))) H := hP
              have hD : va_D (k_A (wM cA q N S z)) (wM cA q N S (tLs u5 (-1))) := wM_D hDD
              refine lv_iconst (v := 1) hx hb d_M_apply_93 (by decide) ?_
              have e6 : (rAp N b f e1 z).2 = tLs u5 (-1) := by subst hu5; subst hu3; subst hu1; first | ((try unfold rAp); (try unfold rAp1); (try unfold rAp2); (repeat (first | rw [hr1] | rw [if_pos g10] | rw [if_neg g10] | rw [if_pos h10] | rw [if_neg h10] | rw [if_pos k10] | rw [if_neg k10] | rw [if_pos g56] | rw [if_neg g56] | rw [if_pos h56] | rw [h56] | rw [if_pos g76] | rw [if_neg g76] | rw [if_pos h76] | rw [h76] | rw [if_pos g83] | rw [if_neg g83] | rw [if_pos h83] | rw [h83] | rw [rRV_n2] | rw [rRA_n] | rw [if_pos (rfl : (0 : Int32) = 0)] | rw [if_neg (show ¬ (-2 : Int32) = 0 by decide)] | rw [if_neg (show ¬ (-3 : Int32) = 0 by decide)] | rw [if_neg (show ¬ true = false by decide)] | rw [if_pos (show false = false from rfl)] | dsimp only)); first | done | rfl) | rfl
              exact W.zret (v := 1) (ty := .boolean) hx hb hr (rfl) (fun t ht hW => ⟨⟨_, (), rfl, by subst hu5; subst hu3; subst hu1; first | ((try unfold rAp); (try unfold rAp1); (try unfold rAp2); (repeat (first | rw [hr1] | rw [if_pos g10] | rw [if_neg g10] | rw [if_pos h10] | rw [if_neg h10] | rw [if_pos k10] | rw [if_neg k10] | rw [if_pos g56] | rw [if_neg g56] | rw [if_pos h56] | rw [h56] | rw [if_pos g76] | rw [if_neg g76] | rw [if_pos h76] | rw [h76] | rw [if_pos g83] | rw [if_neg g83] | rw [if_pos h83] | rw [h83] | rw [rRV_n2] | rw [rRA_n] | rw [if_pos (rfl : (0 : Int32) = 0)] | rw [if_neg (show ¬ (-2 : Int32) = 0 by decide)] | rw [if_neg (show ¬ (-3 : Int32) = 0 by decide)] | rw [if_neg (show ¬ true = false by decide)] | rw [if_pos (show false = false from rfl)] | dsimp only)); first | done | rfl) | rfl, by show va_P D vwCl (wM cA q N S ((rAp N b f e1 z).2)) t.heap; rw [ht, e6]; exact hP⟩, hS.F ht⟩) hS.2.2 d_M_apply_94
            · have h83 := bi_z.mp g83
              refine lv_iconst (v := 0) hx hb d_M_apply_86 (by decide) ?_
              have e7 : (rAp N b f e1 z).2 = u5 := by subst hu5; subst hu3; subst hu1; first | ((try unfold rAp); (try unfold rAp1); (try unfold rAp2); (repeat (first | rw [hr1] | rw [if_pos g10] | rw [if_neg g10] | rw [if_pos h10] | rw [if_neg h10] | rw [if_pos k10] | rw [if_neg k10] | rw [if_pos g56] | rw [if_neg g56] | rw [if_pos h56] | rw [h56] | rw [if_pos g76] | rw [if_neg g76] | rw [if_pos h76] | rw [h76] | rw [if_pos g83] | rw [if_neg g83] | rw [if_pos h83] | rw [h83] | rw [rRV_n2] | rw [rRA_n] | rw [if_pos (rfl : (0 : Int32) = 0)] | rw [if_neg (show ¬ (-2 : Int32) = 0 by decide)] | rw [if_neg (show ¬ (-3 : Int32) = 0 by decide)] | rw [if_neg (show ¬ true = false by decide)] | rw [if_pos (show false = false from rfl)] | dsimp only)); first | done | rfl) | rfl
              exact W.zret (v := 0) (ty := .boolean) hx hb hr (rfl) (fun t ht hW => ⟨⟨_, (), rfl, by subst hu5; subst hu3; subst hu1; first | ((try unfold rAp); (try unfold rAp1); (try unfold rAp2); (repeat (first | rw [hr1] | rw [if_pos g10] | rw [if_neg g10] | rw [if_pos h10] | rw [if_neg h10] | rw [if_pos k10] | rw [if_neg k10] | rw [if_pos g56] | rw [if_neg g56] | rw [if_pos h56] | rw [h56] | rw [if_pos g76] | rw [if_neg g76] | rw [if_pos h76] | rw [h76] | rw [if_pos g83] | rw [if_neg g83] | rw [if_pos h83] | rw [h83] | rw [rRV_n2] | rw [rRA_n] | rw [if_pos (rfl : (0 : Int32) = 0)] | rw [if_neg (show ¬ (-2 : Int32) = 0 by decide)] | rw [if_neg (show ¬ (-3 : Int32) = 0 by decide)] | rw [if_neg (show ¬ true = false by decide)] | rw [if_pos (show false = false from rfl)] | dsimp only)); first | done | rfl) | rfl, by show va_P D vwCl (wM cA q N S ((rAp N b f e1 z).2)) t.heap; rw [ht, e7]; exact hP⟩, hS.F ht⟩) hS.2.2 d_M_apply_87
      · have h10 : ¬ e1 ≤ e1 := fun q9 => g10 ((nI_leI (a := e1) (b := e1) (by omega) (by omega)).mpr q9)
        have k10 : e1 < e1 := by omega
        exfalso; omega
    | succ k ih =>
      intro i zi ls H locs hk hr0 hlg hfi hl hP hS
      have hD : va_D _ (wM cA q N S zi) := wM_D hDD
      have hl1 : rLs zi = nI b := (lgr_ls hlg).1.trans hls
      have hl3 : rLt zi = nI e1 := (lgr_ls hlg).2.2.1.trans hlt
      refine lv_iload_n hx hb d_M_apply_5 rfl (lv_at hl 1 rfl) ?_
      refine lv_aload_n hx hb d_M_apply_6 rfl (lv_at hl 0 rfl) ?_
      refine va_get (D := D) (ci := 4) (v := .int (rLt zi)) (C := R_M) (T := T_M) (N := 16) hx hb hts (in_M) hown hK hP 0 rfl rfl 15 (by decide) (hts _ m_f_M_89) (fun _ h9 => h9) rfl d_M_apply_7 ?_
      refine k_top (nI e1) (by exact hl3) ?_
      refine lv_icmp_ge (tgt := 39) hx hb d_M_apply_10 rfl (fun g10 => ?_) (fun g10 => ?_)
      · have h10 : e1 ≤ i := (nI_leI (a := e1) (b := i) (by omega) (by omega)).mp g10
        have k10 : ¬ i < e1 := by omega
        exfalso; omega
      · have h10 : ¬ e1 ≤ i := fun q9 => g10 ((nI_leI (a := e1) (b := i) (by omega) (by omega)).mpr q9)
        have k10 : i < e1 := by omega
        refine lv_aload_n hx hb d_M_apply_13 rfl (lv_at hl 0 rfl) ?_
        refine lv_iload_n hx hb d_M_apply_14 rfl (lv_at hl 1 rfl) ?_
        refine lv_aload_n hx hb d_M_apply_15 rfl (lv_at hl 0 rfl) ?_
        refine va_get (D := D) (ci := 4) (v := .int (rLs zi)) (C := R_M) (T := T_M) (N := 16) hx hb hts (in_M) hown hK hP 0 rfl rfl 13 (by decide) (hts _ m_f_M_22) (fun _ h9 => h9) rfl d_M_apply_16 ?_
        refine k_top (nI b) (by exact hl1) ?_
        refine lv_aload_n hx hb d_M_apply_19 rfl (lv_at hl 0 rfl) ?_
        refine va_get (D := D) (ci := 4) (v := .ref (q 4)) (C := R_M) (T := T_M) (N := 16) hx hb hts (in_M) hown hK hP 0 rfl rfl 12 (by decide) (hts _ m_f_M_19) (fun _ h9 => h9) rfl d_M_apply_20 ?_
        refine lv_iload_n hx hb d_M_apply_23 rfl (lv_at hl 1 rfl) ?_
        refine va_iald (n := 10) (f := rE zi) hx hb hK hP 4 0 rfl rfl (vp_in_nI (by omega) (by omega)) d_M_apply_24 ?_
        refine k_top ((rE zi) i) (by rw [show (nI i : Int32).toNatClampNeg = i from nI_clamp (n := i) (by omega)]) ?_
        refine k_wri (va_runV (C := R_M) (As := [.int (nI i), .int (nI b), .int ((rE zi) i)]) (rest := []) ⟨hx, hb, hml, hown, hts⟩ (c_Model_store l D cA q N S zi (by omega) (by omega) (by omega) (by omega) i b ((rE zi) i) (by omega) (by omega)) (k_cwV 3 hts m_code_M_store m_ini_M m_l_M_92 m_inst_M_store m_sel_M_store h_M_store rfl rfl ⟨Nat.le_of_ble_eq_true rfl, Nat.le_of_ble_eq_true rfl⟩) (k_pW hP hK hD [0, 1, 2, 3, 4] (by decide) rfl 0 4 rfl rfl) rfl rfl hl.1 rfl (lv_room (Nat.le_of_ble_eq_true rfl)) d_M_apply_25 ⟨Nat.zero_le _, Nat.zero_le _⟩) hS hD [0, 1, 2, 3, 4] rfl (fun r u H1 locs hp hk hP1 hS => ?_)
        subst hp
        obtain ⟨u8, hu8⟩ : ∃ w, w = (rSt N i b ((rE zi) i) zi).2 := ⟨_, rfl⟩
        have hP : va_P D vwCl (wM cA q N S u8) H1 := by rw [hu8]; exact hP1
        have hD : va_D (k_A (wM cA q N S z)) (wM cA q N S u8) := wM_D hDD
        generalize H1 = H at hP hS ⊢
        refine lv_if_ne (tgt := 33) hx hb d_M_apply_28 rfl (fun g28 => ?_) (fun g28 => ?_)
        · have h28 := bi_nz.mp g28
          refine lv_iinc (k := 1) (v := nI (i + 1)) (lv' := [(1, .int (nI (i + 1))), (0, .ref (q 0))]) hx hb d_M_apply_33 hl rfl (nI_add i 1) (by decide) rfl (fun ls hl => ?_)
          refine lv_goto hx hb d_M_apply_36 rfl ?_
          exact ih (i + 1) u8 ls H locs (by omega) (by subst hu8; first | exact hr0.trans (rApL_f (by omega) h28) | rfl) (by subst hu8; first | exact (lgr_st ..).trans hlg | rfl) (by omega) (lv_sub hl [1, 0] rfl) hP hS
        · have h28 := bi_z.mp g28
          have hr1 := hr0.trans (rApL_t (by omega) h28)
          refine lv_iconst (v := 0) hx hb d_M_apply_31 (by decide) ?_
          have e9 : (rAp N b f e1 z).2 = u8 := by subst hu8; first | ((try unfold rAp); (try unfold rAp1); (try unfold rAp2); (repeat (first | rw [if_pos g10] | rw [if_neg g10] | rw [if_pos h10] | rw [if_neg h10] | rw [if_pos k10] | rw [if_neg k10] | rw [if_pos g28] | rw [if_neg g28] | rw [if_pos h28] | rw [h28] | rw [hr1] | rw [rRV_n2] | rw [rRA_n] | rw [if_pos (rfl : (0 : Int32) = 0)] | rw [if_neg (show ¬ (-2 : Int32) = 0 by decide)] | rw [if_neg (show ¬ (-3 : Int32) = 0 by decide)] | rw [if_neg (show ¬ true = false by decide)] | rw [if_pos (show false = false from rfl)] | dsimp only)); first | done | rfl) | rfl
          exact W.zret (v := 0) (ty := .boolean) hx hb hr (rfl) (fun t ht hW => ⟨⟨_, (), rfl, by subst hu8; first | ((try unfold rAp); (try unfold rAp1); (try unfold rAp2); (repeat (first | rw [if_pos g10] | rw [if_neg g10] | rw [if_pos h10] | rw [if_neg h10] | rw [if_pos k10] | rw [if_neg k10] | rw [if_pos g28] | rw [if_neg g28] | rw [if_pos h28] | rw [h28] | rw [hr1] | rw [rRV_n2] | rw [rRA_n] | rw [if_pos (rfl : (0 : Int32) = 0)] | rw [if_neg (show ¬ (-2 : Int32) = 0 by decide)] | rw [if_neg (show ¬ (-3 : Int32) = 0 by decide)] | rw [if_neg (show ¬ true = false by decide)] | rw [if_pos (show false = false from rfl)] | dsimp only)); first | done | rfl) | rfl, by show va_P D vwCl (wM cA q N S ((rAp N b f e1 z).2)) t.heap; rw [ht, e9]; exact hP⟩, hS.F ht⟩) hS.2.2 d_M_apply_32
  exact L5 (e1 - f) f z ls s.heap [] (by omega) (by first | exact hr0.trans (rApL_f (by omega) h28) | rfl) (by first | exact (lgr_st ..).trans hlg | rfl) (by omega) (lv_sub hl [1, 0] rfl) hP hS
