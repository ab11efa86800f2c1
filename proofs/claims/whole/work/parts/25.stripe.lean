set_option maxHeartbeats 4000000 in
set_option maxRecDepth 100000 in
theorem c_Stripe_valueOf (l : Launch) (D : va_G) (cA : ClassId) (hs hv N : Nat) (V : Fn) (gN4 : 4 ≤ N) (gN : N ≤ 10) (a : Nat) (ha : a < N) : Met l y_S_valueOf w_S_valueOf ({ frames := 0, cells := 0, slots := 0, locals := 0 }) (va_Pc [.ref hs, .int (nI a)] (k_R D [(cA, .int)] (wS cA hs hv N V))) (k_Ro (some (.int (V a)))) 0 0 (fun _ => False) := by
  refine Met.ofW (cc := b_S_valueOf) (maxL := 2) (ret := (some .int)) (by decide) rfl ?_
  intro p e s m args below meth c s₁ B hml hv
  obtain ⟨rfl, hP, hK⟩ := hv
  have hx := B.exec
  have hb := B.bytes
  have hr := B.returns
  have hts0 := atoms_spec (ws := w_S_valueOf) B.pre
  have hts : ∀ w ∈ lw_g, w.before _ s = true := fun w h => hts0 w (List.mem_cons_of_mem _ h)
  have hown : s.vm.findClass R_S = some m.cls := findClass_of_methodNamed B.named
  have hlocks := B.notSynchronized
  have hl := lv_entry ([.ref hs, .int (nI a)]) (n := 2) (Nat.le_of_ble_eq_true rfl)
  rw [lg_entry_eq]
  generalize (lg_sl ([.ref hs, .int (nI a)]) ++ List.replicate (2 - (lg_sl ([.ref hs, .int (nI a)])).length) Slot.unset).toArray = ls at hl ⊢
  have hl : lv_has ls 2 [(0, .ref hs), (1, .int (nI a))] := hl
  refine lv_aload_n hx hb d_S_valueOf_0 rfl (lv_at hl 0 rfl) ?_
  refine va_get (D := D) (ci := 2) (v := .ref hv) (C := R_S) (T := T_S) (N := 4) hx hb hts (in_S) hown hK hP 0 rfl rfl 3 (by decide) (hts _ m_f_S_21) (fun _ h9 => h9) rfl d_S_valueOf_1 ?_
  refine lv_iload_n hx hb d_S_valueOf_4 rfl (lv_at hl 1 rfl) ?_
  refine va_iald (n := N) (f := V) hx hb hK hP 1 0 rfl rfl (vp_in_nI (by omega) (by omega)) d_S_valueOf_5 ?_
  refine k_top (V a) (by rw [show (nI a : Int32).toNatClampNeg = a from nI_clamp (n := a) (by omega)]) ?_
  exact W.iret (v := V a) hx hb hr (fun t ht hW => ⟨rfl, ht⟩) (fun _ h => by cases h) d_S_valueOf_6
set_option maxHeartbeats 4000000 in
set_option maxRecDepth 100000 in
theorem c_Stripe_firstGap (l : Launch) (D : va_G) (cA : ClassId) (hs hv N : Nat) (V : Fn) (gN4 : 4 ≤ N) (gN : N ≤ 10) : Met l y_S_firstGap w_S_firstGap ({ frames := 0, cells := 0, slots := 0, locals := 0 }) (va_Pc [.ref hs] (k_R D [(cA, .int)] (wS cA hs hv N V))) (k_Ro (some (.int (fg N V)))) 0 0 (fun _ => False) := by
  refine Met.ofW (cc := b_S_firstGap) (maxL := 3) (ret := (some .int)) (by decide) rfl ?_
  intro p e s m args below meth c s₁ B hml hv
  obtain ⟨rfl, hP, hK⟩ := hv
  have hx := B.exec
  have hb := B.bytes
  have hr := B.returns
  have hts0 := atoms_spec (ws := w_S_firstGap) B.pre
  have hts : ∀ w ∈ lw_g, w.before _ s = true := fun w h => hts0 w (List.mem_cons_of_mem _ h)
  have hown : s.vm.findClass R_S = some m.cls := findClass_of_methodNamed B.named
  have hlocks := B.notSynchronized
  have hl := lv_entry ([.ref hs]) (n := 3) (Nat.le_of_ble_eq_true rfl)
  rw [lg_entry_eq]
  generalize (lg_sl ([.ref hs]) ++ List.replicate (3 - (lg_sl ([.ref hs])).length) Slot.unset).toArray = ls at hl ⊢
  have hl : lv_has ls 3 [(0, .ref hs)] := hl
  refine lv_aload_n hx hb d_S_firstGap_0 rfl (lv_at hl 0 rfl) ?_
  refine va_get (D := D) (ci := 2) (v := .ref hv) (C := R_S) (T := T_S) (N := 4) hx hb hts (in_S) hown hK hP 0 rfl rfl 3 (by decide) (hts _ m_f_S_21) (fun _ h9 => h9) rfl d_S_firstGap_1 ?_
  refine lv_aload_n hx hb d_S_firstGap_4 rfl (lv_at hl 0 rfl) ?_
  refine va_get (D := D) (ci := 2) (v := .int (nI (N - 2))) (C := R_S) (T := T_S) (N := 4) hx hb hts (in_S) hown hK hP 0 rfl rfl 1 (by decide) (hts _ m_f_S_15) (fun _ h9 => h9) rfl d_S_firstGap_5 ?_
  refine va_iald (n := N) (f := V) hx hb hK hP 1 0 rfl rfl (vp_in_nI (by omega) (by omega)) d_S_firstGap_8 ?_
  refine k_top (V (N - 2)) (by rw [show (nI (N - 2) : Int32).toNatClampNeg = N - 2 from nI_clamp (n := N - 2) (by omega)]) ?_
  refine lv_istore_n (lv' := [(1, .int (V (N - 2))), (0, .ref hs)]) hx hb d_S_firstGap_9 rfl hl (by decide) rfl (fun ls hl => ?_)
  refine lv_iconst (v := 0) hx hb d_S_firstGap_10 (by decide) ?_
  refine lv_istore_n (lv' := [(2, .int 0), (1, .int (V (N - 2))), (0, .ref hs)]) hx hb d_S_firstGap_11 rfl hl (by decide) rfl (fun ls hl => ?_)
  have L12 : ∀ (k : Nat) (i : Nat) (ls : Array Slot), i + k = N - 2 → lv_has ls 3 [(0, .ref hs), (1, .int (fgL V (V (N - 2)) i)), (2, .int (nI i))] → W p l e (headSpec w_S_firstGap ({ frames := 0, cells := 0, slots := 0, locals := 0 })).room s m ([.ref hs] : List Value).toArray below meth c s.heap [] 0 0 (MQ below (k_Ro (some (.int (fg N V)))) ([.ref hs] : List Value).toArray s 0 0 (fun _ => False)) (F0 m 12 ls []) := by
    intro k
    induction k with
    | zero =>
      intro i ls hk hl
      obtain rfl : N - 2 = i := by omega
      refine lv_iload_n hx hb d_S_firstGap_12 rfl (lv_at hl 2 rfl) ?_
      refine lv_aload_n hx hb d_S_firstGap_13 rfl (lv_at hl 0 rfl) ?_
      refine va_get (D := D) (ci := 2) (v := .int (nI (N - 2))) (C := R_S) (T := T_S) (N := 4) hx hb hts (in_S) hown hK hP 0 rfl rfl 0 (by decide) (hts _ m_f_S_9) (fun _ h9 => h9) rfl d_S_firstGap_14 ?_
      refine lv_icmp_ge (tgt := 35) hx hb d_S_firstGap_17 rfl (fun g17 => ?_) (fun g17 => ?_)
      · have h17 : (N - 2) ≤ (N - 2) := (nI_leI (a := N - 2) (b := N - 2) (by omega) (by omega)).mp g17
        refine lv_iload_n hx hb d_S_firstGap_35 rfl (lv_at hl 1 rfl) ?_
        refine k_top (fg N V) (by first | rfl | ((try unfold fg); (repeat (first | rw [if_pos g17] | rw [if_neg g17] | rw [if_pos h17] | rw [if_neg h17])); first | done | rfl) | (simp [fgL, fg, g17, h17]; done) | omega) ?_
        exact W.iret (v := fg N V) hx hb hr (fun t ht hW => ⟨rfl, ht⟩) (fun _ h => by cases h) d_S_firstGap_36
      · have h17 : ¬ (N - 2) ≤ (N - 2) := fun z => g17 ((nI_leI (a := N - 2) (b := N - 2) (by omega) (by omega)).mpr z)
        exfalso; omega
    | succ k ih =>
      intro i ls hk hl
      refine lv_iload_n hx hb d_S_firstGap_12 rfl (lv_at hl 2 rfl) ?_
      refine lv_aload_n hx hb d_S_firstGap_13 rfl (lv_at hl 0 rfl) ?_
      refine va_get (D := D) (ci := 2) (v := .int (nI (N - 2))) (C := R_S) (T := T_S) (N := 4) hx hb hts (in_S) hown hK hP 0 rfl rfl 0 (by decide) (hts _ m_f_S_9) (fun _ h9 => h9) rfl d_S_firstGap_14 ?_
      refine lv_icmp_ge (tgt := 35) hx hb d_S_firstGap_17 rfl (fun g17 => ?_) (fun g17 => ?_)
      · have h17 : (N - 2) ≤ i := (nI_leI (a := N - 2) (b := i) (by omega) (by omega)).mp g17
        exfalso; omega
      · have h17 : ¬ (N - 2) ≤ i := fun z => g17 ((nI_leI (a := N - 2) (b := i) (by omega) (by omega)).mpr z)
        refine lv_iload_n hx hb d_S_firstGap_20 rfl (lv_at hl 1 rfl) ?_
        refine lv_aload_n hx hb d_S_firstGap_21 rfl (lv_at hl 0 rfl) ?_
        refine va_get (D := D) (ci := 2) (v := .ref hv) (C := R_S) (T := T_S) (N := 4) hx hb hts (in_S) hown hK hP 0 rfl rfl 3 (by decide) (hts _ m_f_S_21) (fun _ h9 => h9) rfl d_S_firstGap_22 ?_
        refine lv_iload_n hx hb d_S_firstGap_25 rfl (lv_at hl 2 rfl) ?_
        refine va_iald (n := N) (f := V) hx hb hK hP 1 0 rfl rfl (vp_in_nI (by omega) (by omega)) d_S_firstGap_26 ?_
        refine k_top (V i) (by rw [show (nI i : Int32).toNatClampNeg = i from nI_clamp (n := i) (by omega)]) ?_
        refine lv_ixor hx hb d_S_firstGap_27 ?_
        refine lv_istore_n (lv' := [(1, .int ((fgL V (V (N - 2)) i) ^^^ (V i))), (0, .ref hs), (2, .int (nI i))]) hx hb d_S_firstGap_28 rfl hl (by decide) rfl (fun ls hl => ?_)
        refine lv_iinc (k := 2) (v := nI (i + 1)) (lv' := [(2, .int (nI (i + 1))), (1, .int ((fgL V (V (N - 2)) i) ^^^ (V i))), (0, .ref hs)]) hx hb d_S_firstGap_29 hl rfl (nI_add i 1) (by decide) rfl (fun ls hl => ?_)
        refine lv_goto hx hb d_S_firstGap_32 rfl ?_
        have e1 : fgL V (V (N - 2)) (i + 1) = (fgL V (V (N - 2)) i) ^^^ (V i) := by first | rfl | ((try unfold fg); (repeat (first | rw [if_pos g17] | rw [if_neg g17] | rw [if_pos h17] | rw [if_neg h17])); first | done | rfl) | (simp [fgL, fg, g17, h17]; done) | omega
        exact ih (i + 1) ls (by omega) (by rw [e1]; exact lv_sub hl [2, 1, 0] rfl)
  have e2 : fgL V (V (N - 2)) 0 = V (N - 2) := by first | rfl | (simp [fgL, fg]; done) | omega
  have e3 : nI 0 = 0 := by first | rfl | (simp [fgL, fg]; done) | omega
  exact L12 (N - 2) 0 ls (by omega) (by rw [e2, e3]; exact lv_sub hl [2, 1, 0] rfl)
set_option maxHeartbeats 4000000 in
set_option maxRecDepth 100000 in
theorem c_Stripe_secondGap (l : Launch) (D : va_G) (cA : ClassId) (hs hv N : Nat) (V : Fn) (gN4 : 4 ≤ N) (gN : N ≤ 10) : Met l y_S_secondGap w_S_secondGap ({ frames := 1, cells := 0, slots := 0, locals := 20 }) (va_Pc [.ref hs] (k_R D [(cA, .int)] (wS cA hs hv N V))) (k_Ro (some (.int (sg N V)))) 0 0 (fun _ => False) := by
  refine Met.ofW (cc := b_S_secondGap) (maxL := 3) (ret := (some .int)) (by decide) rfl ?_
  intro p e s m args below meth c s₁ B hml hv
  obtain ⟨rfl, hP, hK⟩ := hv
  have hx := B.exec
  have hb := B.bytes
  have hr := B.returns
  have hts0 := atoms_spec (ws := w_S_secondGap) B.pre
  have hts : ∀ w ∈ lw_g, w.before _ s = true := fun w h => hts0 w (List.mem_cons_of_mem _ h)
  have hown : s.vm.findClass R_S = some m.cls := findClass_of_methodNamed B.named
  have hlocks := B.notSynchronized
  have hl := lv_entry ([.ref hs]) (n := 3) (Nat.le_of_ble_eq_true rfl)
  rw [lg_entry_eq]
  generalize (lg_sl ([.ref hs]) ++ List.replicate (3 - (lg_sl ([.ref hs])).length) Slot.unset).toArray = ls at hl ⊢
  have hl : lv_has ls 3 [(0, .ref hs)] := hl
  refine lv_iconst (v := 0) hx hb d_S_secondGap_0 (by decide) ?_
  refine lv_istore_n (lv' := [(1, .int 0), (0, .ref hs)]) hx hb d_S_secondGap_1 rfl hl (by decide) rfl (fun ls hl => ?_)
  refine lv_aload_n hx hb d_S_secondGap_2 rfl (lv_at hl 1 rfl) ?_
  refine va_get (D := D) (ci := 2) (v := .int (nI (N - 2))) (C := R_S) (T := T_S) (N := 4) hx hb hts (in_S) hown hK hP 0 rfl rfl 0 (by decide) (hts _ m_f_S_9) (fun _ h9 => h9) rfl d_S_secondGap_3 ?_
  refine lv_iconst (v := 1) hx hb d_S_secondGap_6 (by decide) ?_
  refine lv_isub hx hb d_S_secondGap_7 ?_
  refine k_top (nI (N - 2 - 1)) (pk_sub (a := N - 2) (b := 1) (by omega)) ?_
  refine lv_istore_n (lv' := [(2, .int (nI (N - 2 - 1))), (1, .int 0), (0, .ref hs)]) hx hb d_S_secondGap_8 rfl hl (by decide) rfl (fun ls hl => ?_)
  have L9 : ∀ (k : Nat) (ls : Array Slot), k ≤ N - 2 → lv_has ls 3 [(0, .ref hs), (1, .int (sgL V (N - 2) (N - 2 - k))), (2, .int (iz k))] → W p l e (headSpec w_S_secondGap ({ frames := 1, cells := 0, slots := 0, locals := 20 })).room s m ([.ref hs] : List Value).toArray below meth c s.heap [] 0 0 (MQ below (k_Ro (some (.int (sg N V)))) ([.ref hs] : List Value).toArray s 0 0 (fun _ => False)) (F0 m 9 ls []) := by
    intro k
    induction k with
    | zero =>
      intro ls hk hl
      rw [iz_0] at hl
      refine lv_iload_n hx hb d_S_secondGap_9 rfl (lv_at hl 2 rfl) ?_
      refine lv_if_lt (tgt := 31) hx hb d_S_secondGap_10 rfl (fun g10 => ?_) (fun g10 => ?_)
      · refine lv_aload_n hx hb d_S_secondGap_31 rfl (lv_at hl 0 rfl) ?_
        refine va_get (D := D) (ci := 2) (v := .ref hv) (C := R_S) (T := T_S) (N := 4) hx hb hts (in_S) hown hK hP 0 rfl rfl 3 (by decide) (hts _ m_f_S_21) (fun _ h9 => h9) rfl d_S_secondGap_32 ?_
        refine lv_aload_n hx hb d_S_secondGap_35 rfl (lv_at hl 0 rfl) ?_
        refine va_get (D := D) (ci := 2) (v := .int (nI (N - 1))) (C := R_S) (T := T_S) (N := 4) hx hb hts (in_S) hown hK hP 0 rfl rfl 2 (by decide) (hts _ m_f_S_18) (fun _ h9 => h9) rfl d_S_secondGap_36 ?_
        refine va_iald (n := N) (f := V) hx hb hK hP 1 0 rfl rfl (vp_in_nI (by omega) (by omega)) d_S_secondGap_39 ?_
        refine k_top (V (N - 1)) (by rw [show (nI (N - 1) : Int32).toNatClampNeg = N - 1 from nI_clamp (n := N - 1) (by omega)]) ?_
        refine lv_iload_n hx hb d_S_secondGap_40 rfl (lv_at hl 1 rfl) ?_
        refine lv_ixor hx hb d_S_secondGap_41 ?_
        refine k_top (sg N V) (by first | rfl | ((try unfold sg); (repeat (first | rw [if_pos g10] | rw [if_neg g10])); first | done | rfl) | (simp [sgL, sg, g10]; done) | omega) ?_
        exact W.iret (v := sg N V) hx hb hr (fun t ht hW => ⟨rfl, ht⟩) (fun _ h => by cases h) d_S_secondGap_42
      · exact absurd g10 (by decide)
    | succ k ih =>
      intro ls hk hl
      rw [iz_s] at hl
      refine lv_iload_n hx hb d_S_secondGap_9 rfl (lv_at hl 2 rfl) ?_
      refine lv_if_lt (tgt := 31) hx hb d_S_secondGap_10 rfl (fun g10 => ?_) (fun g10 => ?_)
      · have h10 : k < 0 := (nI_ltI (a := k) (b := 0) (by omega) (by omega)).mp g10
        exfalso; omega
      · have h10 : ¬ k < 0 := fun z => g10 ((nI_ltI (a := k) (b := 0) (by omega) (by omega)).mpr z)
        refine lv_iload_n hx hb d_S_secondGap_13 rfl (lv_at hl 1 rfl) ?_
        refine k_roi (va_runS (As := [.int (sgL V (N - 2) (N - 2 - (k + 1)))]) (rest := []) ⟨hx, hb, hml, hown, hts⟩ (c_Words_doubled l D (sgL V (N - 2) (N - 2 - (k + 1)))) (k_cwS 1 hts m_code_W_doubled m_ini_W m_l_S_63 m_stat_W_doubled h_W_doubled rfl rfl ⟨Nat.le_of_ble_eq_true rfl, Nat.le_of_ble_eq_true rfl⟩) (k_s0) rfl rfl hl.1 rfl (lv_room (Nat.le_of_ble_eq_true rfl)) d_S_secondGap_14 ⟨Nat.zero_le _, Nat.zero_le _⟩) ?_
        refine lv_aload_n hx hb d_S_secondGap_17 rfl (lv_at hl 0 rfl) ?_
        refine va_get (D := D) (ci := 2) (v := .ref hv) (C := R_S) (T := T_S) (N := 4) hx hb hts (in_S) hown hK hP 0 rfl rfl 3 (by decide) (hts _ m_f_S_21) (fun _ h9 => h9) rfl d_S_secondGap_18 ?_
        refine lv_iload_n hx hb d_S_secondGap_21 rfl (lv_at hl 2 rfl) ?_
        refine va_iald (n := N) (f := V) hx hb hK hP 1 0 rfl rfl (vp_in_nI (by omega) (by omega)) d_S_secondGap_22 ?_
        refine k_top (V k) (by rw [show (nI k : Int32).toNatClampNeg = k from nI_clamp (n := k) (by omega)]) ?_
        refine lv_ixor hx hb d_S_secondGap_23 ?_
        refine lv_istore_n (lv' := [(1, .int ((dbl (sgL V (N - 2) (N - 2 - (k + 1)))) ^^^ (V k))), (0, .ref hs), (2, .int (nI k))]) hx hb d_S_secondGap_24 rfl hl (by decide) rfl (fun ls hl => ?_)
        refine lv_iinc (k := 2) (v := iz k) (lv' := [(2, .int (iz k)), (1, .int ((dbl (sgL V (N - 2) (N - 2 - (k + 1)))) ^^^ (V k))), (0, .ref hs)]) hx hb d_S_secondGap_25 hl rfl (rfl) (by decide) rfl (fun ls hl => ?_)
        refine lv_goto hx hb d_S_secondGap_28 rfl ?_
        have e1 : sgL V (N - 2) (N - 2 - k) = (dbl (sgL V (N - 2) (N - 2 - (k + 1)))) ^^^ (V k) := by first | (rw [Nat.sub_self]; rfl) | (rw [show N - 2 - k = (N - 2 - (k + 1)) + 1 by omega]; show dbl _ ^^^ V (N - 2 - 1 - (N - 2 - (k + 1))) = _; rw [show N - 2 - 1 - (N - 2 - (k + 1)) = k by omega])
        exact ih ls (by omega) (by rw [e1]; exact lv_sub hl [2, 1, 0] rfl)
  have e2 : sgL V (N - 2) (N - 2 - (N - 2)) = 0 := by first | (rw [Nat.sub_self]; rfl) | (rw [show N - 2 - k = (N - 2 - (k + 1)) + 1 by omega]; show dbl _ ^^^ V (N - 2 - 1 - (N - 2 - (k + 1))) = _; rw [show N - 2 - 1 - (N - 2 - (k + 1)) = k by omega])
  have e3 : iz (N - 2) = nI (N - 2 - 1) := by first | exact iz_p (by omega) | rfl
  exact L9 (N - 2) ls (by omega) (by rw [e2, e3]; exact lv_sub hl [2, 1, 0] rfl)
set_option maxHeartbeats 4000000 in
set_option maxRecDepth 100000 in
theorem c_Stripe_meetFirstEquation (l : Launch) (D : va_G) (cA : ClassId) (hs hv N : Nat) (V : Fn) (gN4 : 4 ≤ N) (gN : N ≤ 10) : Met l y_S_meetFirstEquation w_S_meetFirstEquation ({ frames := 1, cells := 0, slots := 0, locals := 22 }) (va_Pc [.ref hs] (k_Wc D [(cA, .int)] (wS cA hs hv N V))) (va_Qv (fun (_ : Unit) => True) (fun _ t => va_P D vwCl (wS cA hs hv N (mF N V)) t.heap) (k_A (wS cA hs hv N V))) 0 0 (k_A (wS cA hs hv N V)) := by
  refine Met.ofW (cc := b_S_meetFirstEquation) (maxL := 1) (ret := none) (by decide) rfl ?_
  intro p e s m args below meth c s₁ B hml hv
  obtain ⟨rfl, hP, hK, hD0⟩ := hv
  have hx := B.exec
  have hb := B.bytes
  have hr := B.returns
  have hts0 := atoms_spec (ws := w_S_meetFirstEquation) B.pre
  have hts : ∀ w ∈ lw_g, w.before _ s = true := fun w h => hts0 w (List.mem_cons_of_mem _ h)
  have hown : s.vm.findClass R_S = some m.cls := findClass_of_methodNamed B.named
  have hlocks := B.notSynchronized
  have hD := k_Dself hD0
  have hS : va_S (k_A (wS cA hs hv N V)) s.heap s.heap [] := va_S.rf
  have hl := lv_entry ([.ref hs]) (n := 1) (Nat.le_of_ble_eq_true rfl)
  rw [lg_entry_eq]
  generalize (lg_sl ([.ref hs]) ++ List.replicate (1 - (lg_sl ([.ref hs])).length) Slot.unset).toArray = ls at hl ⊢
  have hl : lv_has ls 1 [(0, .ref hs)] := hl
  refine lv_aload_n hx hb d_S_meetFirstEquation_0 rfl (lv_at hl 0 rfl) ?_
  refine va_get (D := D) (ci := 2) (v := .ref hv) (C := R_S) (T := T_S) (N := 4) hx hb hts (in_S) hown hK hP 0 rfl rfl 3 (by decide) (hts _ m_f_S_21) (fun _ h9 => h9) rfl d_S_meetFirstEquation_1 ?_
  refine lv_aload_n hx hb d_S_meetFirstEquation_4 rfl (lv_at hl 0 rfl) ?_
  refine va_get (D := D) (ci := 2) (v := .int (nI (N - 2))) (C := R_S) (T := T_S) (N := 4) hx hb hts (in_S) hown hK hP 0 rfl rfl 1 (by decide) (hts _ m_f_S_15) (fun _ h9 => h9) rfl d_S_meetFirstEquation_5 ?_
  refine lv_dup2_11 hx hb d_S_meetFirstEquation_8 rfl rfl ?_
  refine va_iald (n := N) (f := V) hx hb hK hP 1 0 rfl rfl (vp_in_nI (by omega) (by omega)) d_S_meetFirstEquation_9 ?_
  refine k_top (V (N - 2)) (by rw [show (nI (N - 2) : Int32).toNatClampNeg = N - 2 from nI_clamp (n := N - 2) (by omega)]) ?_
  refine lv_aload_n hx hb d_S_meetFirstEquation_10 rfl (lv_at hl 0 rfl) ?_
  refine k_roi (va_runV (C := R_S) (As := []) (rest := [.int (V (N - 2)), .int (nI (N - 2)), .ref hv]) ⟨hx, hb, hml, hown, hts⟩ (c_Stripe_firstGap l D cA hs hv N V (by omega) (by omega)) (k_cwV 0 hts m_code_S_firstGap m_ini_S m_l_S_48 m_inst_S_firstGap m_sel_S_firstGap h_S_firstGap rfl rfl ⟨Nat.le_of_ble_eq_true rfl, Nat.le_of_ble_eq_true rfl⟩) (k_pR hP hK [0, 1] rfl 0 2 rfl rfl) rfl rfl hl.1 rfl (lv_room (Nat.le_of_ble_eq_true rfl)) d_S_meetFirstEquation_11 ⟨Nat.zero_le _, Nat.zero_le _⟩) ?_
  refine lv_ixor hx hb d_S_meetFirstEquation_14 ?_
  refine va_iast (n := N) (f := V) hx hb hK hP hD hS 1 0 rfl rfl (vp_in_nI (by omega) (by omega)) d_S_meetFirstEquation_15 (fun H locs hP hD hS => ?_)
  rw [show (nI (N - 2) : Int32).toNatClampNeg = N - 2 from nI_clamp (n := N - 2) (by omega)] at hP hD
  have hP : va_P D vwCl (wS cA hs hv N (upd V (N - 2) ((V (N - 2)) ^^^ (fg N V)))) H := hP
  have hD : va_D (k_A (wS cA hs hv N V)) (wS cA hs hv N (upd V (N - 2) ((V (N - 2)) ^^^ (fg N V)))) := hD
  have e1 : mF N V = upd V (N - 2) ((V (N - 2)) ^^^ (fg N V)) := by first | rfl | (simp [mF]; done) | omega
  exact W.vret hx hb hr (fun t ht hW => ⟨⟨(), rfl, trivial, by show va_P D vwCl (wS cA hs hv N (mF N V)) t.heap; rw [ht, e1]; exact hP⟩, hS.F ht⟩) hS.2.2 d_S_meetFirstEquation_16
set_option maxHeartbeats 4000000 in
set_option maxRecDepth 100000 in
theorem c_Stripe_meetSecondEquation (l : Launch) (D : va_G) (cA : ClassId) (hs hv N : Nat) (V : Fn) (gN4 : 4 ≤ N) (gN : N ≤ 10) : Met l y_S_meetSecondEquation w_S_meetSecondEquation ({ frames := 2, cells := 0, slots := 0, locals := 42 }) (va_Pc [.ref hs] (k_Wc D [(cA, .int)] (wS cA hs hv N V))) (va_Qv (fun (_ : Unit) => True) (fun _ t => va_P D vwCl (wS cA hs hv N (mS N V)) t.heap) (k_A (wS cA hs hv N V))) 0 0 (k_A (wS cA hs hv N V)) := by
  refine Met.ofW (cc := b_S_meetSecondEquation) (maxL := 1) (ret := none) (by decide) rfl ?_
  intro p e s m args below meth c s₁ B hml hv
  obtain ⟨rfl, hP, hK, hD0⟩ := hv
  have hx := B.exec
  have hb := B.bytes
  have hr := B.returns
  have hts0 := atoms_spec (ws := w_S_meetSecondEquation) B.pre
  have hts : ∀ w ∈ lw_g, w.before _ s = true := fun w h => hts0 w (List.mem_cons_of_mem _ h)
  have hown : s.vm.findClass R_S = some m.cls := findClass_of_methodNamed B.named
  have hlocks := B.notSynchronized
  have hD := k_Dself hD0
  have hS : va_S (k_A (wS cA hs hv N V)) s.heap s.heap [] := va_S.rf
  have hl := lv_entry ([.ref hs]) (n := 1) (Nat.le_of_ble_eq_true rfl)
  rw [lg_entry_eq]
  generalize (lg_sl ([.ref hs]) ++ List.replicate (1 - (lg_sl ([.ref hs])).length) Slot.unset).toArray = ls at hl ⊢
  have hl : lv_has ls 1 [(0, .ref hs)] := hl
  refine lv_aload_n hx hb d_S_meetSecondEquation_0 rfl (lv_at hl 0 rfl) ?_
  refine va_get (D := D) (ci := 2) (v := .ref hv) (C := R_S) (T := T_S) (N := 4) hx hb hts (in_S) hown hK hP 0 rfl rfl 3 (by decide) (hts _ m_f_S_21) (fun _ h9 => h9) rfl d_S_meetSecondEquation_1 ?_
  refine lv_aload_n hx hb d_S_meetSecondEquation_4 rfl (lv_at hl 0 rfl) ?_
  refine va_get (D := D) (ci := 2) (v := .int (nI (N - 1))) (C := R_S) (T := T_S) (N := 4) hx hb hts (in_S) hown hK hP 0 rfl rfl 2 (by decide) (hts _ m_f_S_18) (fun _ h9 => h9) rfl d_S_meetSecondEquation_5 ?_
  refine lv_dup2_11 hx hb d_S_meetSecondEquation_8 rfl rfl ?_
  refine va_iald (n := N) (f := V) hx hb hK hP 1 0 rfl rfl (vp_in_nI (by omega) (by omega)) d_S_meetSecondEquation_9 ?_
  refine k_top (V (N - 1)) (by rw [show (nI (N - 1) : Int32).toNatClampNeg = N - 1 from nI_clamp (n := N - 1) (by omega)]) ?_
  refine lv_aload_n hx hb d_S_meetSecondEquation_10 rfl (lv_at hl 0 rfl) ?_
  refine k_roi (va_runV (C := R_S) (As := []) (rest := [.int (V (N - 1)), .int (nI (N - 1)), .ref hv]) ⟨hx, hb, hml, hown, hts⟩ (c_Stripe_secondGap l D cA hs hv N V (by omega) (by omega)) (k_cwV 0 hts m_code_S_secondGap m_ini_S m_l_S_52 m_inst_S_secondGap m_sel_S_secondGap h_S_secondGap rfl rfl ⟨Nat.le_of_ble_eq_true rfl, Nat.le_of_ble_eq_true rfl⟩) (k_pR hP hK [0, 1] rfl 0 2 rfl rfl) rfl rfl hl.1 rfl (lv_room (Nat.le_of_ble_eq_true rfl)) d_S_meetSecondEquation_11 ⟨Nat.zero_le _, Nat.zero_le _⟩) ?_
  refine lv_ixor hx hb d_S_meetSecondEquation_14 ?_
  refine va_iast (n := N) (f := V) hx hb hK hP hD hS 1 0 rfl rfl (vp_in_nI (by omega) (by omega)) d_S_meetSecondEquation_15 (fun H locs hP hD hS => ?_)
  rw [show (nI (N - 1) : Int32).toNatClampNeg = N - 1 from nI_clamp (n := N - 1) (by omega)] at hP hD
  have hP : va_P D vwCl (wS cA hs hv N (upd V (N - 1) ((V (N - 1)) ^^^ (sg N V)))) H := hP
  have hD : va_D (k_A (wS cA hs hv N V)) (wS cA hs hv N (upd V (N - 1) ((V (N - 1)) ^^^ (sg N V)))) := hD
  have e1 : mS N V = upd V (N - 1) ((V (N - 1)) ^^^ (sg N V)) := by first | rfl | (simp [mS]; done) | omega
  exact W.vret hx hb hr (fun t ht hW => ⟨⟨(), rfl, trivial, by show va_P D vwCl (wS cA hs hv N (mS N V)) t.heap; rw [ht, e1]; exact hP⟩, hS.F ht⟩) hS.2.2 d_S_meetSecondEquation_16
set_option maxHeartbeats 4000000 in
set_option maxRecDepth 100000 in
theorem c_Stripe_meetsBothEquations (l : Launch) (D : va_G) (cA : ClassId) (hs hv N : Nat) (V : Fn) (gN4 : 4 ≤ N) (gN : N ≤ 10) : Met l y_S_meetsBothEquations w_S_meetsBothEquations ({ frames := 2, cells := 0, slots := 0, locals := 42 }) (va_Pc [.ref hs] (k_R D [(cA, .int)] (wS cA hs hv N V))) (k_Ro (some (.int (bi (decide (fg N V = 0 ∧ sg N V = 0)))))) 0 0 (fun _ => False) := by
  refine Met.ofW (cc := b_S_meetsBothEquations) (maxL := 1) (ret := (some .boolean)) (by decide) rfl ?_
  intro p e s m args below meth c s₁ B hml hv
  obtain ⟨rfl, hP, hK⟩ := hv
  have hx := B.exec
  have hb := B.bytes
  have hr := B.returns
  have hts0 := atoms_spec (ws := w_S_meetsBothEquations) B.pre
  have hts : ∀ w ∈ lw_g, w.before _ s = true := fun w h => hts0 w (List.mem_cons_of_mem _ h)
  have hown : s.vm.findClass R_S = some m.cls := findClass_of_methodNamed B.named
  have hlocks := B.notSynchronized
  have hl := lv_entry ([.ref hs]) (n := 1) (Nat.le_of_ble_eq_true rfl)
  rw [lg_entry_eq]
  generalize (lg_sl ([.ref hs]) ++ List.replicate (1 - (lg_sl ([.ref hs])).length) Slot.unset).toArray = ls at hl ⊢
  have hl : lv_has ls 1 [(0, .ref hs)] := hl
  refine lv_aload_n hx hb d_S_meetsBothEquations_0 rfl (lv_at hl 0 rfl) ?_
  refine k_roi (va_runV (C := R_S) (As := []) (rest := []) ⟨hx, hb, hml, hown, hts⟩ (c_Stripe_firstGap l D cA hs hv N V (by omega) (by omega)) (k_cwV 0 hts m_code_S_firstGap m_ini_S m_l_S_48 m_inst_S_firstGap m_sel_S_firstGap h_S_firstGap rfl rfl ⟨Nat.le_of_ble_eq_true rfl, Nat.le_of_ble_eq_true rfl⟩) (k_pR hP hK [0, 1] rfl 0 2 rfl rfl) rfl rfl hl.1 rfl (lv_room (Nat.le_of_ble_eq_true rfl)) d_S_meetsBothEquations_1 ⟨Nat.zero_le _, Nat.zero_le _⟩) ?_
  refine lv_if_ne (tgt := 18) hx hb d_S_meetsBothEquations_4 rfl (fun g4 => ?_) (fun g4 => ?_)
  · refine lv_iconst (v := 0) hx hb d_S_meetsBothEquations_18 (by decide) ?_
    refine k_top (bi (decide (fg N V = 0 ∧ sg N V = 0))) (by rw [decide_eq_false (show ¬ ((fg N V = 0 ∧ sg N V = 0)) by first | assumption | omega | exact fun z => g4 z.1 | exact fun z => g4 z.2 | exact fun z => z.elim (fun z => by omega) (fun z => g4 z.1) | exact fun z => z.elim (fun z => by omega) (fun z => g4 z.2) | (simp [bi, g4]; done))]; rfl) ?_
    exact W.zret (v := bi (decide (fg N V = 0 ∧ sg N V = 0))) (ty := .boolean) hx hb hr (bi_n _) (fun t ht hW => ⟨rfl, ht⟩) (fun _ h => by cases h) d_S_meetsBothEquations_19
  · refine lv_aload_n hx hb d_S_meetsBothEquations_7 rfl (lv_at hl 0 rfl) ?_
    refine k_roi (va_runV (C := R_S) (As := []) (rest := []) ⟨hx, hb, hml, hown, hts⟩ (c_Stripe_secondGap l D cA hs hv N V (by omega) (by omega)) (k_cwV 0 hts m_code_S_secondGap m_ini_S m_l_S_52 m_inst_S_secondGap m_sel_S_secondGap h_S_secondGap rfl rfl ⟨Nat.le_of_ble_eq_true rfl, Nat.le_of_ble_eq_true rfl⟩) (k_pR hP hK [0, 1] rfl 0 2 rfl rfl) rfl rfl hl.1 rfl (lv_room (Nat.le_of_ble_eq_true rfl)) d_S_meetsBothEquations_8 ⟨Nat.zero_le _, Nat.zero_le _⟩) ?_
    refine lv_if_ne (tgt := 18) hx hb d_S_meetsBothEquations_11 rfl (fun g11 => ?_) (fun g11 => ?_)
    · refine lv_iconst (v := 0) hx hb d_S_meetsBothEquations_18 (by decide) ?_
      refine k_top (bi (decide (fg N V = 0 ∧ sg N V = 0))) (by rw [decide_eq_false (show ¬ ((fg N V = 0 ∧ sg N V = 0)) by first | assumption | omega | exact fun z => g4 z.1 | exact fun z => g4 z.2 | exact fun z => z.elim (fun z => by omega) (fun z => g4 z.1) | exact fun z => z.elim (fun z => by omega) (fun z => g4 z.2) | exact fun z => g11 z.1 | exact fun z => g11 z.2 | exact fun z => z.elim (fun z => by omega) (fun z => g11 z.1) | exact fun z => z.elim (fun z => by omega) (fun z => g11 z.2) | (simp [bi, g4, g11]; done))]; rfl) ?_
      exact W.zret (v := bi (decide (fg N V = 0 ∧ sg N V = 0))) (ty := .boolean) hx hb hr (bi_n _) (fun t ht hW => ⟨rfl, ht⟩) (fun _ h => by cases h) d_S_meetsBothEquations_19
    · refine lv_iconst (v := 1) hx hb d_S_meetsBothEquations_14 (by decide) ?_
      refine lv_goto hx hb d_S_meetsBothEquations_15 rfl ?_
      refine k_top (bi (decide (fg N V = 0 ∧ sg N V = 0))) (by rw [decide_eq_true (show (fg N V = 0 ∧ sg N V = 0) by first | assumption | omega | exact ⟨by assumption, by assumption⟩ | exact ⟨⟨by assumption, by assumption⟩, by assumption⟩ | exact Or.inl (by first | assumption | omega) | exact Or.inr ⟨by assumption, by assumption⟩ | (simp [bi, g4, g11]; done))]; rfl) ?_
      exact W.zret (v := bi (decide (fg N V = 0 ∧ sg N V = 0))) (ty := .boolean) hx hb hr (bi_n _) (fun t ht hW => ⟨rfl, ht⟩) (fun _ h => by cases h) d_S_meetsBothEquations_19
set_option maxHeartbeats 4000000 in
set_option maxRecDepth 100000 in
theorem c_Stripe_slotAtFault (l : Launch) (D : va_G) (cA : ClassId) (hs hv N : Nat) (V : Fn) (gN4 : 4 ≤ N) (gN : N ≤ 10) : Met l y_S_slotAtFault w_S_slotAtFault ({ frames := 2, cells := 0, slots := 0, locals := 43 }) (va_Pc [.ref hs] (k_R D [(cA, .int)] (wS cA hs hv N V))) (k_Ro (some (.int (saf N V)))) 0 0 (fun _ => False) := by
  refine Met.ofW (cc := b_S_slotAtFault) (maxL := 4) (ret := (some .int)) (by decide) rfl ?_
  intro p e s m args below meth c s₁ B hml hv
  obtain ⟨rfl, hP, hK⟩ := hv
  have hx := B.exec
  have hb := B.bytes
  have hr := B.returns
  have hts0 := atoms_spec (ws := w_S_slotAtFault) B.pre
  have hts : ∀ w ∈ lw_g, w.before _ s = true := fun w h => hts0 w (List.mem_cons_of_mem _ h)
  have hown : s.vm.findClass R_S = some m.cls := findClass_of_methodNamed B.named
  have hlocks := B.notSynchronized
  have hl := lv_entry ([.ref hs]) (n := 4) (Nat.le_of_ble_eq_true rfl)
  rw [lg_entry_eq]
  generalize (lg_sl ([.ref hs]) ++ List.replicate (4 - (lg_sl ([.ref hs])).length) Slot.unset).toArray = ls at hl ⊢
  have hl : lv_has ls 4 [(0, .ref hs)] := hl
  refine lv_aload_n hx hb d_S_slotAtFault_0 rfl (lv_at hl 0 rfl) ?_
  refine k_roi (va_runV (C := R_S) (As := []) (rest := []) ⟨hx, hb, hml, hown, hts⟩ (c_Stripe_firstGap l D cA hs hv N V (by omega) (by omega)) (k_cwV 0 hts m_code_S_firstGap m_ini_S m_l_S_48 m_inst_S_firstGap m_sel_S_firstGap h_S_firstGap rfl rfl ⟨Nat.le_of_ble_eq_true rfl, Nat.le_of_ble_eq_true rfl⟩) (k_pR hP hK [0, 1] rfl 0 2 rfl rfl) rfl rfl hl.1 rfl (lv_room (Nat.le_of_ble_eq_true rfl)) d_S_slotAtFault_1 ⟨Nat.zero_le _, Nat.zero_le _⟩) ?_
  refine lv_istore_n (lv' := [(1, .int (fg N V)), (0, .ref hs)]) hx hb d_S_slotAtFault_4 rfl hl (by decide) rfl (fun ls hl => ?_)
  refine lv_aload_n hx hb d_S_slotAtFault_5 rfl (lv_at hl 1 rfl) ?_
  refine k_roi (va_runV (C := R_S) (As := []) (rest := []) ⟨hx, hb, hml, hown, hts⟩ (c_Stripe_secondGap l D cA hs hv N V (by omega) (by omega)) (k_cwV 0 hts m_code_S_secondGap m_ini_S m_l_S_52 m_inst_S_secondGap m_sel_S_secondGap h_S_secondGap rfl rfl ⟨Nat.le_of_ble_eq_true rfl, Nat.le_of_ble_eq_true rfl⟩) (k_pR hP hK [0, 1] rfl 0 2 rfl rfl) rfl rfl hl.1 rfl (lv_room (Nat.le_of_ble_eq_true rfl)) d_S_slotAtFault_6 ⟨Nat.zero_le _, Nat.zero_le _⟩) ?_
  refine lv_istore_n (lv' := [(2, .int (sg N V)), (1, .int (fg N V)), (0, .ref hs)]) hx hb d_S_slotAtFault_9 rfl hl (by decide) rfl (fun ls hl => ?_)
  refine lv_iload_n hx hb d_S_slotAtFault_10 rfl (lv_at hl 0 rfl) ?_
  refine lv_if_ne (tgt := 19) hx hb d_S_slotAtFault_11 rfl (fun g11 => ?_) (fun g11 => ?_)
  · refine lv_iload_n hx hb d_S_slotAtFault_19 rfl (lv_at hl 1 rfl) ?_
    refine lv_if_ne (tgt := 28) hx hb d_S_slotAtFault_20 rfl (fun g20 => ?_) (fun g20 => ?_)
    · refine lv_iconst (v := 0) hx hb d_S_slotAtFault_28 (by decide) ?_
      refine lv_istore_n (lv' := [(3, .int 0), (2, .int (sg N V)), (1, .int (fg N V)), (0, .ref hs)]) hx hb d_S_slotAtFault_29 rfl hl (by decide) rfl (fun ls hl => ?_)
      have L30 : ∀ (k : Nat) (i : Nat) (ls : Array Slot), i + k = N - 2 → saf N V = sfI (fg N V) (sg N V) (N - 2) k → lv_has ls 4 [(0, .ref hs), (1, .int (fg N V)), (2, .int (sg N V)), (3, .int (nI i))] → W p l e (headSpec w_S_slotAtFault ({ frames := 2, cells := 0, slots := 0, locals := 43 })).room s m ([.ref hs] : List Value).toArray below meth c s.heap [] 0 0 (MQ below (k_Ro (some (.int (saf N V)))) ([.ref hs] : List Value).toArray s 0 0 (fun _ => False)) (F0 m 30 ls []) := by
        intro k
        induction k with
        | zero =>
          intro i ls hk hs0 hl
          obtain rfl : N - 2 = i := by omega
          refine lv_iload_n hx hb d_S_slotAtFault_30 rfl (lv_at hl 3 rfl) ?_
          refine lv_aload_n hx hb d_S_slotAtFault_31 rfl (lv_at hl 0 rfl) ?_
          refine va_get (D := D) (ci := 2) (v := .int (nI (N - 2))) (C := R_S) (T := T_S) (N := 4) hx hb hts (in_S) hown hK hP 0 rfl rfl 0 (by decide) (hts _ m_f_S_9) (fun _ h9 => h9) rfl d_S_slotAtFault_32 ?_
          refine lv_icmp_ge (tgt := 55) hx hb d_S_slotAtFault_35 rfl (fun g35 => ?_) (fun g35 => ?_)
          · have h35 : (N - 2) ≤ (N - 2) := (nI_leI (a := N - 2) (b := N - 2) (by omega) (by omega)).mp g35
            refine lv_iconst (v := (-1)) hx hb d_S_slotAtFault_55 (by decide) ?_
            refine k_top (saf N V) (by rw [hs0]; rfl) ?_
            exact W.iret (v := saf N V) hx hb hr (fun t ht hW => ⟨rfl, ht⟩) (fun _ h => by cases h) d_S_slotAtFault_56
          · have h35 : ¬ (N - 2) ≤ (N - 2) := fun z => g35 ((nI_leI (a := N - 2) (b := N - 2) (by omega) (by omega)).mpr z)
            exfalso; omega
        | succ k ih =>
          intro i ls hk hs0 hl
          refine lv_iload_n hx hb d_S_slotAtFault_30 rfl (lv_at hl 3 rfl) ?_
          refine lv_aload_n hx hb d_S_slotAtFault_31 rfl (lv_at hl 0 rfl) ?_
          refine va_get (D := D) (ci := 2) (v := .int (nI (N - 2))) (C := R_S) (T := T_S) (N := 4) hx hb hts (in_S) hown hK hP 0 rfl rfl 0 (by decide) (hts _ m_f_S_9) (fun _ h9 => h9) rfl d_S_slotAtFault_32 ?_
          refine lv_icmp_ge (tgt := 55) hx hb d_S_slotAtFault_35 rfl (fun g35 => ?_) (fun g35 => ?_)
          · have h35 : (N - 2) ≤ i := (nI_leI (a := N - 2) (b := i) (by omega) (by omega)).mp g35
            exfalso; omega
          · have h35 : ¬ (N - 2) ≤ i := fun z => g35 ((nI_leI (a := N - 2) (b := i) (by omega) (by omega)).mpr z)
            refine lv_iload_n hx hb d_S_slotAtFault_38 rfl (lv_at hl 3 rfl) ?_
            refine lv_iload_n hx hb d_S_slotAtFault_39 rfl (lv_at hl 1 rfl) ?_
            refine k_roi (va_runS (As := [.int (nI i), .int (fg N V)]) (rest := []) ⟨hx, hb, hml, hown, hts⟩ (c_Words_timesPower l D i (fg N V) (by omega)) (k_cwS 2 hts m_code_W_timesPower m_ini_W m_l_S_67 m_stat_W_timesPower h_W_timesPower rfl rfl ⟨Nat.le_of_ble_eq_true rfl, Nat.le_of_ble_eq_true rfl⟩) (k_s0) rfl rfl hl.1 rfl (lv_room (Nat.le_of_ble_eq_true rfl)) d_S_slotAtFault_40 ⟨Nat.zero_le _, Nat.zero_le _⟩) ?_
            refine lv_iload_n hx hb d_S_slotAtFault_43 rfl (lv_at hl 2 rfl) ?_
            refine lv_icmp_ne (tgt := 49) hx hb d_S_slotAtFault_44 rfl (fun g44 => ?_) (fun g44 => ?_)
            · refine lv_iinc (k := 3) (v := nI (i + 1)) (lv' := [(3, .int (nI (i + 1))), (0, .ref hs), (1, .int (fg N V)), (2, .int (sg N V))]) hx hb d_S_slotAtFault_49 hl rfl (nI_add i 1) (by decide) rfl (fun ls hl => ?_)
              refine lv_goto hx hb d_S_slotAtFault_52 rfl ?_
              exact ih (i + 1) ls (by omega) (by first | (simp [saf, sfI, g11, g20, g35, h35, g44]; done) | (have e0 : N - 2 - (k + 1) = i := (by omega); rw [hs0]; show (if dblN (N - 2 - (k + 1)) _ = _ then _ else _) = _; rw [e0, if_neg g44])) (lv_sub hl [1, 2, 3, 0] rfl)
            · refine lv_iload_n hx hb d_S_slotAtFault_47 rfl (lv_at hl 3 rfl) ?_
              refine k_top (saf N V) (by have e0 : N - 2 - (k + 1) = i := (by omega); rw [hs0]; show _ = (if dblN (N - 2 - (k + 1)) _ = _ then _ else _); rw [e0, if_pos g44]) ?_
              exact W.iret (v := saf N V) hx hb hr (fun t ht hW => ⟨rfl, ht⟩) (fun _ h => by cases h) d_S_slotAtFault_48
      have e1 : nI 0 = 0 := by first | rfl | ((try unfold saf); (repeat (first | rw [if_pos g11] | rw [if_neg g11] | rw [if_pos g20] | rw [if_neg g20])); first | done | rfl) | (simp [saf, sfI, g11, g20]; done) | omega
      exact L30 (N - 2) 0 ls (by omega) (by first | (simp [saf, sfI, g11, g20]; done) | (have e0 : N - 2 - (k + 1) = i := (by omega); rw [hs0]; show (if dblN (N - 2 - (k + 1)) _ = _ then _ else _) = _; rw [e0, if_neg g44])) (by rw [e1]; exact lv_sub hl [3, 2, 1, 0] rfl)
    · refine lv_aload_n hx hb d_S_slotAtFault_23 rfl (lv_at hl 2 rfl) ?_
      refine va_get (D := D) (ci := 2) (v := .int (nI (N - 1))) (C := R_S) (T := T_S) (N := 4) hx hb hts (in_S) hown hK hP 0 rfl rfl 2 (by decide) (hts _ m_f_S_18) (fun _ h9 => h9) rfl d_S_slotAtFault_24 ?_
      refine k_top (saf N V) (by first | rfl | ((try unfold saf); (repeat (first | rw [if_pos g11] | rw [if_neg g11] | rw [if_pos g20] | rw [if_neg g20])); first | done | rfl) | (simp [saf, sfI, g11, g20]; done) | omega) ?_
      exact W.iret (v := saf N V) hx hb hr (fun t ht hW => ⟨rfl, ht⟩) (fun _ h => by cases h) d_S_slotAtFault_27
  · refine lv_aload_n hx hb d_S_slotAtFault_14 rfl (lv_at hl 2 rfl) ?_
    refine va_get (D := D) (ci := 2) (v := .int (nI (N - 2))) (C := R_S) (T := T_S) (N := 4) hx hb hts (in_S) hown hK hP 0 rfl rfl 1 (by decide) (hts _ m_f_S_15) (fun _ h9 => h9) rfl d_S_slotAtFault_15 ?_
    refine k_top (saf N V) (by first | rfl | ((try unfold saf); (repeat (first | rw [if_pos g11] | rw [if_neg g11])); first | done | rfl) | (simp [saf, sfI, g11]; done) | omega) ?_
    exact W.iret (v := saf N V) hx hb hr (fun t ht hW => ⟨rfl, ht⟩) (fun _ h => by cases h) d_S_slotAtFault_18
set_option maxHeartbeats 4000000 in
set_option maxRecDepth 100000 in
theorem c_Stripe_mendedWord (l : Launch) (D : va_G) (cA : ClassId) (hs hv N : Nat) (V : Fn) (gN4 : 4 ≤ N) (gN : N ≤ 10) (a : Nat) (ha : a < N) : Met l y_S_mendedWord w_S_mendedWord ({ frames := 2, cells := 0, slots := 0, locals := 42 }) (va_Pc [.ref hs, .int (nI a)] (k_R D [(cA, .int)] (wS cA hs hv N V))) (k_Ro (some (.int (mend N V a)))) 0 0 (fun _ => False) := by
  refine Met.ofW (cc := b_S_mendedWord) (maxL := 2) (ret := (some .int)) (by decide) rfl ?_
  intro p e s m args below meth c s₁ B hml hv
  obtain ⟨rfl, hP, hK⟩ := hv
  have hx := B.exec
  have hb := B.bytes
  have hr := B.returns
  have hts0 := atoms_spec (ws := w_S_mendedWord) B.pre
  have hts : ∀ w ∈ lw_g, w.before _ s = true := fun w h => hts0 w (List.mem_cons_of_mem _ h)
  have hown : s.vm.findClass R_S = some m.cls := findClass_of_methodNamed B.named
  have hlocks := B.notSynchronized
  have hl := lv_entry ([.ref hs, .int (nI a)]) (n := 2) (Nat.le_of_ble_eq_true rfl)
  rw [lg_entry_eq]
  generalize (lg_sl ([.ref hs, .int (nI a)]) ++ List.replicate (2 - (lg_sl ([.ref hs, .int (nI a)])).length) Slot.unset).toArray = ls at hl ⊢
  have hl : lv_has ls 2 [(0, .ref hs), (1, .int (nI a))] := hl
  refine lv_aload_n hx hb d_S_mendedWord_0 rfl (lv_at hl 0 rfl) ?_
  refine va_get (D := D) (ci := 2) (v := .ref hv) (C := R_S) (T := T_S) (N := 4) hx hb hts (in_S) hown hK hP 0 rfl rfl 3 (by decide) (hts _ m_f_S_21) (fun _ h9 => h9) rfl d_S_mendedWord_1 ?_
  refine lv_iload_n hx hb d_S_mendedWord_4 rfl (lv_at hl 1 rfl) ?_
  refine va_iald (n := N) (f := V) hx hb hK hP 1 0 rfl rfl (vp_in_nI (by omega) (by omega)) d_S_mendedWord_5 ?_
  refine k_top (V a) (by rw [show (nI a : Int32).toNatClampNeg = a from nI_clamp (n := a) (by omega)]) ?_
  refine lv_iload_n hx hb d_S_mendedWord_6 rfl (lv_at hl 1 rfl) ?_
  refine lv_aload_n hx hb d_S_mendedWord_7 rfl (lv_at hl 0 rfl) ?_
  refine va_get (D := D) (ci := 2) (v := .int (nI (N - 1))) (C := R_S) (T := T_S) (N := 4) hx hb hts (in_S) hown hK hP 0 rfl rfl 2 (by decide) (hts _ m_f_S_18) (fun _ h9 => h9) rfl d_S_mendedWord_8 ?_
  refine lv_icmp_ne (tgt := 21) hx hb d_S_mendedWord_11 rfl (fun g11 => ?_) (fun g11 => ?_)
  · have h11 : ¬ a = (N - 1) := fun z => g11 ((nI_eq (a := a) (b := N - 1) (by omega) (by omega)).mpr z)
    refine lv_aload_n hx hb d_S_mendedWord_21 rfl (lv_at hl 0 rfl) ?_
    refine k_roi (va_runV (C := R_S) (As := []) (rest := [.int (V a)]) ⟨hx, hb, hml, hown, hts⟩ (c_Stripe_firstGap l D cA hs hv N V (by omega) (by omega)) (k_cwV 0 hts m_code_S_firstGap m_ini_S m_l_S_48 m_inst_S_firstGap m_sel_S_firstGap h_S_firstGap rfl rfl ⟨Nat.le_of_ble_eq_true rfl, Nat.le_of_ble_eq_true rfl⟩) (k_pR hP hK [0, 1] rfl 0 2 rfl rfl) rfl rfl hl.1 rfl (lv_room (Nat.le_of_ble_eq_true rfl)) d_S_mendedWord_22 ⟨Nat.zero_le _, Nat.zero_le _⟩) ?_
    refine lv_ixor hx hb d_S_mendedWord_25 ?_
    refine k_top (mend N V a) (by first | rfl | ((try unfold mend); (repeat (first | rw [if_pos g11] | rw [if_neg g11] | rw [if_pos h11] | rw [if_neg h11])); first | done | rfl) | (simp [mend, g11, h11]; done) | omega) ?_
    exact W.iret (v := mend N V a) hx hb hr (fun t ht hW => ⟨rfl, ht⟩) (fun _ h => by cases h) d_S_mendedWord_26
  · have h11 : a = (N - 1) := (nI_eq (a := a) (b := N - 1) (by omega) (by omega)).mp g11
    refine lv_aload_n hx hb d_S_mendedWord_14 rfl (lv_at hl 0 rfl) ?_
    refine k_roi (va_runV (C := R_S) (As := []) (rest := [.int (V a)]) ⟨hx, hb, hml, hown, hts⟩ (c_Stripe_secondGap l D cA hs hv N V (by omega) (by omega)) (k_cwV 0 hts m_code_S_secondGap m_ini_S m_l_S_52 m_inst_S_secondGap m_sel_S_secondGap h_S_secondGap rfl rfl ⟨Nat.le_of_ble_eq_true rfl, Nat.le_of_ble_eq_true rfl⟩) (k_pR hP hK [0, 1] rfl 0 2 rfl rfl) rfl rfl hl.1 rfl (lv_room (Nat.le_of_ble_eq_true rfl)) d_S_mendedWord_15 ⟨Nat.zero_le _, Nat.zero_le _⟩) ?_
    refine lv_goto hx hb d_S_mendedWord_18 rfl ?_
    refine lv_ixor hx hb d_S_mendedWord_25 ?_
    refine k_top (mend N V a) (by first | rfl | ((try unfold mend); (repeat (first | rw [if_pos g11] | rw [if_neg g11] | rw [if_pos h11] | rw [if_neg h11])); first | done | rfl) | (simp [mend, g11, h11]; done) | omega) ?_
    exact W.iret (v := mend N V a) hx hb hr (fun t ht hW => ⟨rfl, ht⟩) (fun _ h => by cases h) d_S_mendedWord_26
set_option maxHeartbeats 4000000 in
set_option maxRecDepth 100000 in
theorem c_Stripe_restoreColumns (l : Launch) (D : va_G) (cA : ClassId) (hs hv N : Nat) (V : Fn) (gN4 : 4 ≤ N) (gN : N ≤ 10) (fl sl : Int32) (hfl : fl = -1 ∨ ∃ a, a < N ∧ fl = nI a) (hsl : sl = -1 ∨ ∃ a, a < N ∧ sl = nI a) : Met l y_S_restoreColumns w_S_restoreColumns ({ frames := 2, cells := 0, slots := 0, locals := 45 }) (va_Pc [.ref hs, .int fl, .int sl] (k_WT D [(cA, .int)] (wS cA hs hv N V))) (va_Qv (fun (_ : Unit) => True) (fun _ t => va_P D vwCl (wS cA hs hv N (rsC N V fl sl)) t.heap) (k_A (wS cA hs hv N V))) 0 0 (k_A (wS cA hs hv N V)) := by
  refine Met.ofW (cc := b_S_restoreColumns) (maxL := 6) (ret := none) (by decide) rfl ?_
  intro p e s m args below meth c s₁ B hml hv
  obtain ⟨rfl, hP, hK, hD0, hTb⟩ := hv
  have hx := B.exec
  have hb := B.bytes
  have hr := B.returns
  have hts0 := atoms_spec (ws := w_S_restoreColumns) B.pre
  have hts : ∀ w ∈ lw_g, w.before _ s = true := fun w h => hts0 w (List.mem_cons_of_mem _ h)
  have hown : s.vm.findClass R_S = some m.cls := findClass_of_methodNamed B.named
  have hlocks := B.notSynchronized
  have hD := k_Dself hD0
  have hS : va_S (k_A (wS cA hs hv N V)) s.heap s.heap [] := va_S.rf
  have hl := lv_entry ([.ref hs, .int fl, .int sl]) (n := 6) (Nat.le_of_ble_eq_true rfl)
  rw [lg_entry_eq]
  generalize (lg_sl ([.ref hs, .int fl, .int sl]) ++ List.replicate (6 - (lg_sl ([.ref hs, .int fl, .int sl])).length) Slot.unset).toArray = ls at hl ⊢
  have hl : lv_has ls 6 [(0, .ref hs), (1, .int fl), (2, .int sl)] := hl
  refine lv_iload_n hx hb d_S_restoreColumns_0 rfl (lv_at hl 1 rfl) ?_
  refine lv_iconst (v := (-1)) hx hb d_S_restoreColumns_1 (by decide) ?_
  refine lv_icmp_eq (tgt := 13) hx hb d_S_restoreColumns_2 rfl (fun g2 => ?_) (fun g2 => ?_)
  · have e1 : rsC N V fl sl = V := by first | rfl | ((try unfold rsC); (try unfold rsY); (repeat (first | rw [if_pos g2] | rw [if_neg g2])); first | done | rfl) | (simp [rsC, rsY, g2]; done) | omega
    exact W.vret hx hb hr (fun t ht hW => ⟨⟨(), rfl, trivial, by show va_P D vwCl (wS cA hs hv N (rsC N V fl sl)) t.heap; rw [ht, e1]; exact hP⟩, hS.F ht⟩) hS.2.2 d_S_restoreColumns_13
  · refine lv_iload_n hx hb d_S_restoreColumns_5 rfl (lv_at hl 1 rfl) ?_
    refine lv_aload_n hx hb d_S_restoreColumns_6 rfl (lv_at hl 0 rfl) ?_
    refine va_get (D := D) (ci := 2) (v := .int (nI (N - 2))) (C := R_S) (T := T_S) (N := 4) hx hb hts (in_S) hown hK hP 0 rfl rfl 0 (by decide) (hts _ m_f_S_9) (fun _ h9 => h9) rfl d_S_restoreColumns_7 ?_
    refine lv_icmp_lt (tgt := 14) hx hb d_S_restoreColumns_10 rfl (fun g10 => ?_) (fun g10 => ?_)
    · have h10 := Int32.not_le.mpr g10
      obtain ⟨hf1, hf2⟩ := rs_fl gN hfl g2 g10
      have hl : lv_has ls 6 [(0, .ref hs), (1, .int (nI (tn fl))), (2, .int sl)] := by rw [← hf2]; exact hl
      refine lv_iload_n hx hb d_S_restoreColumns_14 rfl (lv_at hl 2 rfl) ?_
      refine lv_iconst (v := (-1)) hx hb d_S_restoreColumns_15 (by decide) ?_
      refine lv_icmp_eq (tgt := 27) hx hb d_S_restoreColumns_16 rfl (fun g16 => ?_) (fun g16 => ?_)
      · refine lv_aload_n hx hb d_S_restoreColumns_27 rfl (lv_at hl 0 rfl) ?_
        refine va_get (D := D) (ci := 2) (v := .ref hv) (C := R_S) (T := T_S) (N := 4) hx hb hts (in_S) hown hK hP 0 rfl rfl 3 (by decide) (hts _ m_f_S_21) (fun _ h9 => h9) rfl d_S_restoreColumns_28 ?_
        refine lv_iload_n hx hb d_S_restoreColumns_31 rfl (lv_at hl 1 rfl) ?_
        refine lv_aload_n hx hb d_S_restoreColumns_32 rfl (lv_at hl 0 rfl) ?_
        refine k_roi (va_runV (C := R_S) (As := []) (rest := [.int (nI (tn fl)), .ref hv]) ⟨hx, hb, hml, hown, hts⟩ (c_Stripe_firstGap l D cA hs hv N V (by omega) (by omega)) (k_cwV 0 hts m_code_S_firstGap m_ini_S m_l_S_48 m_inst_S_firstGap m_sel_S_firstGap h_S_firstGap rfl rfl ⟨Nat.le_of_ble_eq_true rfl, Nat.le_of_ble_eq_true rfl⟩) (k_pR hP hK [0, 1] rfl 0 2 rfl rfl) rfl rfl hl.1 rfl (lv_room (Nat.le_of_ble_eq_true rfl)) d_S_restoreColumns_33 ⟨Nat.zero_le _, Nat.zero_le _⟩) ?_
        refine va_iast (n := N) (f := V) hx hb hK hP hD hS 1 0 rfl rfl (vp_in_nI (by omega) (by omega)) d_S_restoreColumns_36 (fun H locs hP hD hS => ?_)
        rw [show (nI (tn fl) : Int32).toNatClampNeg = tn fl from nI_clamp (n := tn fl) (by omega)] at hP hD
        have hP : va_P D vwCl (wS cA hs hv N (upd V (tn fl) (fg N V))) H := hP
        have hD : va_D (k_A (wS cA hs hv N V)) (wS cA hs hv N (upd V (tn fl) (fg N V))) := hD
        have e2 : rsC N V fl sl = upd V (tn fl) (fg N V) := by first | rfl | ((try unfold rsC); (try unfold rsY); (repeat (first | rw [if_pos g2] | rw [if_neg g2] | rw [if_pos g10] | rw [if_neg g10] | rw [if_pos h10] | rw [if_neg h10] | rw [if_pos g16] | rw [if_neg g16])); first | done | rfl) | (simp [rsC, rsY, g2, g10, h10, g16]; done) | omega
        exact W.vret hx hb hr (fun t ht hW => ⟨⟨(), rfl, trivial, by show va_P D vwCl (wS cA hs hv N (rsC N V fl sl)) t.heap; rw [ht, e2]; exact hP⟩, hS.F ht⟩) hS.2.2 d_S_restoreColumns_37
      · refine lv_iload_n hx hb d_S_restoreColumns_19 rfl (lv_at hl 2 rfl) ?_
        refine lv_aload_n hx hb d_S_restoreColumns_20 rfl (lv_at hl 0 rfl) ?_
        refine va_get (D := D) (ci := 2) (v := .int (nI (N - 1))) (C := R_S) (T := T_S) (N := 4) hx hb hts (in_S) hown hK hP 0 rfl rfl 2 (by decide) (hts _ m_f_S_18) (fun _ h9 => h9) rfl d_S_restoreColumns_21 ?_
        refine lv_icmp_ne (tgt := 38) hx hb d_S_restoreColumns_24 rfl (fun g24 => ?_) (fun g24 => ?_)
        · refine lv_iload_n hx hb d_S_restoreColumns_38 rfl (lv_at hl 1 rfl) ?_
          refine lv_aload_n hx hb d_S_restoreColumns_39 rfl (lv_at hl 0 rfl) ?_
          refine k_roi (va_runV (C := R_S) (As := []) (rest := [.int (nI (tn fl))]) ⟨hx, hb, hml, hown, hts⟩ (c_Stripe_secondGap l D cA hs hv N V (by omega) (by omega)) (k_cwV 0 hts m_code_S_secondGap m_ini_S m_l_S_52 m_inst_S_secondGap m_sel_S_secondGap h_S_secondGap rfl rfl ⟨Nat.le_of_ble_eq_true rfl, Nat.le_of_ble_eq_true rfl⟩) (k_pR hP hK [0, 1] rfl 0 2 rfl rfl) rfl rfl hl.1 rfl (lv_room (Nat.le_of_ble_eq_true rfl)) d_S_restoreColumns_40 ⟨Nat.zero_le _, Nat.zero_le _⟩) ?_
          refine k_roi (va_runS (As := [.int (nI (tn fl)), .int (sg N V)]) (rest := []) ⟨hx, hb, hml, hown, hts⟩ (c_Words_dividedByPower l D (tn fl) (sg N V) (by omega)) (k_cwS 2 hts m_code_W_dividedByPower m_ini_W m_l_S_55 m_stat_W_dividedByPower h_W_dividedByPower rfl rfl ⟨Nat.le_of_ble_eq_true rfl, Nat.le_of_ble_eq_true rfl⟩) (k_s0) rfl rfl hl.1 rfl (lv_room (Nat.le_of_ble_eq_true rfl)) d_S_restoreColumns_43 ⟨Nat.zero_le _, Nat.zero_le _⟩) ?_
          refine lv_istore_n (lv' := [(3, .int (hlvN (tn fl) (sg N V))), (0, .ref hs), (1, .int (nI (tn fl))), (2, .int sl)]) hx hb d_S_restoreColumns_46 rfl hl (by decide) rfl (fun ls hl => ?_)
          refine lv_iload_n hx hb d_S_restoreColumns_47 rfl (lv_at hl 3 rfl) ?_
          refine lv_aload_n hx hb d_S_restoreColumns_48 rfl (lv_at hl 1 rfl) ?_
          refine va_get (D := D) (ci := 2) (v := .int (nI (N - 2))) (C := R_S) (T := T_S) (N := 4) hx hb hts (in_S) hown hK hP 0 rfl rfl 1 (by decide) (hts _ m_f_S_15) (fun _ h9 => h9) rfl d_S_restoreColumns_49 ?_
          refine lv_icmp_ne (tgt := 63) hx hb d_S_restoreColumns_52 rfl (fun g52 => ?_) (fun g52 => ?_)
          · obtain ⟨hs1, hs2⟩ := rs_sl gN hsl g16
            have hl : lv_has ls 6 [(3, .int (hlvN (tn fl) (sg N V))), (0, .ref hs), (1, .int (nI (tn fl))), (2, .int (nI (tn sl)))] := by rw [← hs2]; exact hl
            refine lv_aload_n hx hb d_S_restoreColumns_63 rfl (lv_at hl 1 rfl) ?_
            refine k_roi (va_runV (C := R_S) (As := []) (rest := []) ⟨hx, hb, hml, hown, hts⟩ (c_Stripe_firstGap l D cA hs hv N V (by omega) (by omega)) (k_cwV 0 hts m_code_S_firstGap m_ini_S m_l_S_48 m_inst_S_firstGap m_sel_S_firstGap h_S_firstGap rfl rfl ⟨Nat.le_of_ble_eq_true rfl, Nat.le_of_ble_eq_true rfl⟩) (k_pR hP hK [0, 1] rfl 0 2 rfl rfl) rfl rfl hl.1 rfl (lv_room (Nat.le_of_ble_eq_true rfl)) d_S_restoreColumns_64 ⟨Nat.zero_le _, Nat.zero_le _⟩) ?_
            refine lv_istore (lv' := [(4, .int (fg N V)), (3, .int (hlvN (tn fl) (sg N V))), (0, .ref hs), (1, .int (nI (tn fl))), (2, .int (nI (tn sl)))]) hx hb d_S_restoreColumns_67 hl (by decide) rfl (fun ls hl => ?_)
            refine lv_iload_n hx hb d_S_restoreColumns_69 rfl (lv_at hl 4 rfl) ?_
            refine lv_iload_n hx hb d_S_restoreColumns_70 rfl (lv_at hl 3 rfl) ?_
            refine lv_isub hx hb d_S_restoreColumns_71 ?_
            refine k_top (sl - fl) (by rw [← hs2, ← hf2]) ?_
            refine lv_iload hx hb d_S_restoreColumns_72 (lv_at hl 0 rfl) ?_
            refine lv_iload_n hx hb d_S_restoreColumns_74 rfl (lv_at hl 1 rfl) ?_
            refine lv_ixor hx hb d_S_restoreColumns_75 ?_
            refine k_roi (va_runS (As := [.int (sl - fl), .int ((fg N V) ^^^ (hlvN (tn fl) (sg N V)))]) (rest := []) ⟨hx, hb, hml, hown, hts⟩ (c_Words_dividedBy1PlusPower l D (sl - fl) ((fg N V) ^^^ (hlvN (tn fl) (sg N V)))) (k_cwS 2 hts m_code_W_dividedBy1PlusPower m_ini_W m_l_S_60 m_stat_W_dividedBy1PlusPower h_W_dividedBy1PlusPower rfl rfl ⟨Nat.le_of_ble_eq_true rfl, Nat.le_of_ble_eq_true rfl⟩) (k_sT hTb hS) rfl rfl hl.1 rfl (lv_room (Nat.le_of_ble_eq_true rfl)) d_S_restoreColumns_76 ⟨Nat.zero_le _, Nat.zero_le _⟩) ?_
            refine lv_istore (lv' := [(5, .int (dv1 ((sl - fl) &&& 7).toNatClampNeg ((fg N V) ^^^ (hlvN (tn fl) (sg N V))))), (4, .int (fg N V)), (3, .int (hlvN (tn fl) (sg N V))), (0, .ref hs), (1, .int (nI (tn fl))), (2, .int (nI (tn sl)))]) hx hb d_S_restoreColumns_79 hl (by decide) rfl (fun ls hl => ?_)
            refine lv_aload_n hx hb d_S_restoreColumns_81 rfl (lv_at hl 3 rfl) ?_
            refine va_get (D := D) (ci := 2) (v := .ref hv) (C := R_S) (T := T_S) (N := 4) hx hb hts (in_S) hown hK hP 0 rfl rfl 3 (by decide) (hts _ m_f_S_21) (fun _ h9 => h9) rfl d_S_restoreColumns_82 ?_
            refine lv_iload_n hx hb d_S_restoreColumns_85 rfl (lv_at hl 4 rfl) ?_
            refine lv_iload hx hb d_S_restoreColumns_86 (lv_at hl 1 rfl) ?_
            refine lv_iload hx hb d_S_restoreColumns_88 (lv_at hl 0 rfl) ?_
            refine lv_ixor hx hb d_S_restoreColumns_90 ?_
            refine va_iast (n := N) (f := V) hx hb hK hP hD hS 1 0 rfl rfl (vp_in_nI (by omega) (by omega)) d_S_restoreColumns_91 (fun H locs hP hD hS => ?_)
            rw [show (nI (tn fl) : Int32).toNatClampNeg = tn fl from nI_clamp (n := tn fl) (by omega)] at hP hD
            have hP : va_P D vwCl (wS cA hs hv N (upd V (tn fl) ((fg N V) ^^^ (dv1 ((sl - fl) &&& 7).toNatClampNeg ((fg N V) ^^^ (hlvN (tn fl) (sg N V))))))) H := hP
            have hD : va_D (k_A (wS cA hs hv N V)) (wS cA hs hv N (upd V (tn fl) ((fg N V) ^^^ (dv1 ((sl - fl) &&& 7).toNatClampNeg ((fg N V) ^^^ (hlvN (tn fl) (sg N V))))))) := hD
            refine lv_aload_n hx hb d_S_restoreColumns_92 rfl (lv_at hl 3 rfl) ?_
            refine va_get (D := D) (ci := 2) (v := .ref hv) (C := R_S) (T := T_S) (N := 4) hx hb hts (in_S) hown hK hP 0 rfl rfl 3 (by decide) (hts _ m_f_S_21) (fun _ h9 => h9) rfl d_S_restoreColumns_93 ?_
            refine lv_iload_n hx hb d_S_restoreColumns_96 rfl (lv_at hl 5 rfl) ?_
            refine lv_iload hx hb d_S_restoreColumns_97 (lv_at hl 0 rfl) ?_
            refine va_iast (n := N) (f := upd V (tn fl) ((fg N V) ^^^ (dv1 ((sl - fl) &&& 7).toNatClampNeg ((fg N V) ^^^ (hlvN (tn fl) (sg N V)))))) hx hb hK hP hD hS 1 0 rfl rfl (vp_in_nI (by omega) (by omega)) d_S_restoreColumns_99 (fun H locs hP hD hS => ?_)
            rw [show (nI (tn sl) : Int32).toNatClampNeg = tn sl from nI_clamp (n := tn sl) (by omega)] at hP hD
            have hP : va_P D vwCl (wS cA hs hv N (upd (upd V (tn fl) ((fg N V) ^^^ (dv1 ((sl - fl) &&& 7).toNatClampNeg ((fg N V) ^^^ (hlvN (tn fl) (sg N V)))))) (tn sl) (dv1 ((sl - fl) &&& 7).toNatClampNeg ((fg N V) ^^^ (hlvN (tn fl) (sg N V)))))) H := hP
            have hD : va_D (k_A (wS cA hs hv N V)) (wS cA hs hv N (upd (upd V (tn fl) ((fg N V) ^^^ (dv1 ((sl - fl) &&& 7).toNatClampNeg ((fg N V) ^^^ (hlvN (tn fl) (sg N V)))))) (tn sl) (dv1 ((sl - fl) &&& 7).toNatClampNeg ((fg N V) ^^^ (hlvN (tn fl) (sg N V)))))) := hD
            have e3 : rsC N V fl sl = upd (upd V (tn fl) ((fg N V) ^^^ (dv1 ((sl - fl) &&& 7).toNatClampNeg ((fg N V) ^^^ (hlvN (tn fl) (sg N V)))))) (tn sl) (dv1 ((sl - fl) &&& 7).toNatClampNeg ((fg N V) ^^^ (hlvN (tn fl) (sg N V)))) := by first | rfl | ((try unfold rsC); (try unfold rsY); (repeat (first | rw [if_pos g2] | rw [if_neg g2] | rw [if_pos g10] | rw [if_neg g10] | rw [if_pos h10] | rw [if_neg h10] | rw [if_pos g16] | rw [if_neg g16] | rw [if_pos g24] | rw [if_neg g24] | rw [if_pos g52] | rw [if_neg g52])); first | done | rfl) | (simp [rsC, rsY, g2, g10, h10, g16, g24, g52]; done) | omega
            exact W.vret hx hb hr (fun t ht hW => ⟨⟨(), rfl, trivial, by show va_P D vwCl (wS cA hs hv N (rsC N V fl sl)) t.heap; rw [ht, e3]; exact hP⟩, hS.F ht⟩) hS.2.2 d_S_restoreColumns_100
          · refine lv_aload_n hx hb d_S_restoreColumns_55 rfl (lv_at hl 1 rfl) ?_
            refine va_get (D := D) (ci := 2) (v := .ref hv) (C := R_S) (T := T_S) (N := 4) hx hb hts (in_S) hown hK hP 0 rfl rfl 3 (by decide) (hts _ m_f_S_21) (fun _ h9 => h9) rfl d_S_restoreColumns_56 ?_
            refine lv_iload_n hx hb d_S_restoreColumns_59 rfl (lv_at hl 2 rfl) ?_
            refine lv_iload_n hx hb d_S_restoreColumns_60 rfl (lv_at hl 0 rfl) ?_
            refine va_iast (n := N) (f := V) hx hb hK hP hD hS 1 0 rfl rfl (vp_in_nI (by omega) (by omega)) d_S_restoreColumns_61 (fun H locs hP hD hS => ?_)
            rw [show (nI (tn fl) : Int32).toNatClampNeg = tn fl from nI_clamp (n := tn fl) (by omega)] at hP hD
            have hP : va_P D vwCl (wS cA hs hv N (upd V (tn fl) (hlvN (tn fl) (sg N V)))) H := hP
            have hD : va_D (k_A (wS cA hs hv N V)) (wS cA hs hv N (upd V (tn fl) (hlvN (tn fl) (sg N V)))) := hD
            have e4 : rsC N V fl sl = upd V (tn fl) (hlvN (tn fl) (sg N V)) := by unfold rsC; rw [if_neg g2, if_neg h10, if_neg g16, if_neg g24, if_pos g52]
            exact W.vret hx hb hr (fun t ht hW => ⟨⟨(), rfl, trivial, by show va_P D vwCl (wS cA hs hv N (rsC N V fl sl)) t.heap; rw [ht, e4]; exact hP⟩, hS.F ht⟩) hS.2.2 d_S_restoreColumns_62
        · refine lv_aload_n hx hb d_S_restoreColumns_27 rfl (lv_at hl 0 rfl) ?_
          refine va_get (D := D) (ci := 2) (v := .ref hv) (C := R_S) (T := T_S) (N := 4) hx hb hts (in_S) hown hK hP 0 rfl rfl 3 (by decide) (hts _ m_f_S_21) (fun _ h9 => h9) rfl d_S_restoreColumns_28 ?_
          refine lv_iload_n hx hb d_S_restoreColumns_31 rfl (lv_at hl 1 rfl) ?_
          refine lv_aload_n hx hb d_S_restoreColumns_32 rfl (lv_at hl 0 rfl) ?_
          refine k_roi (va_runV (C := R_S) (As := []) (rest := [.int (nI (tn fl)), .ref hv]) ⟨hx, hb, hml, hown, hts⟩ (c_Stripe_firstGap l D cA hs hv N V (by omega) (by omega)) (k_cwV 0 hts m_code_S_firstGap m_ini_S m_l_S_48 m_inst_S_firstGap m_sel_S_firstGap h_S_firstGap rfl rfl ⟨Nat.le_of_ble_eq_true rfl, Nat.le_of_ble_eq_true rfl⟩) (k_pR hP hK [0, 1] rfl 0 2 rfl rfl) rfl rfl hl.1 rfl (lv_room (Nat.le_of_ble_eq_true rfl)) d_S_restoreColumns_33 ⟨Nat.zero_le _, Nat.zero_le _⟩) ?_
          refine va_iast (n := N) (f := V) hx hb hK hP hD hS 1 0 rfl rfl (vp_in_nI (by omega) (by omega)) d_S_restoreColumns_36 (fun H locs hP hD hS => ?_)
          rw [show (nI (tn fl) : Int32).toNatClampNeg = tn fl from nI_clamp (n := tn fl) (by omega)] at hP hD
          have hP : va_P D vwCl (wS cA hs hv N (upd V (tn fl) (fg N V))) H := hP
          have hD : va_D (k_A (wS cA hs hv N V)) (wS cA hs hv N (upd V (tn fl) (fg N V))) := hD
          have e5 : rsC N V fl sl = upd V (tn fl) (fg N V) := by first | rfl | ((try unfold rsC); (try unfold rsY); (repeat (first | rw [if_pos g2] | rw [if_neg g2] | rw [if_pos g10] | rw [if_neg g10] | rw [if_pos h10] | rw [if_neg h10] | rw [if_pos g16] | rw [if_neg g16] | rw [if_pos g24] | rw [if_neg g24])); first | done | rfl) | (simp [rsC, rsY, g2, g10, h10, g16, g24]; done) | omega
          exact W.vret hx hb hr (fun t ht hW => ⟨⟨(), rfl, trivial, by show va_P D vwCl (wS cA hs hv N (rsC N V fl sl)) t.heap; rw [ht, e5]; exact hP⟩, hS.F ht⟩) hS.2.2 d_S_restoreColumns_37
    · have h10 := Int32.not_lt.mp g10
      have e6 : rsC N V fl sl = V := by first | rfl | ((try unfold rsC); (try unfold rsY); (repeat (first | rw [if_pos g2] | rw [if_neg g2] | rw [if_pos g10] | rw [if_neg g10] | rw [if_pos h10] | rw [if_neg h10])); first | done | rfl) | (simp [rsC, rsY, g2, g10, h10]; done) | omega
      exact W.vret hx hb hr (fun t ht hW => ⟨⟨(), rfl, trivial, by show va_P D vwCl (wS cA hs hv N (rsC N V fl sl)) t.heap; rw [ht, e6]; exact hP⟩, hS.F ht⟩) hS.2.2 d_S_restoreColumns_13
set_option maxHeartbeats 4000000 in
set_option maxRecDepth 100000 in
theorem c_Stripe_load (l : Launch) (D : va_G) (cA : ClassId) (hd hw hp N S : Nat) (Wo Po : Fn) (hs hv : Nat) (V : Fn) (gN4 : 4 ≤ N) (gN : N ≤ 10) (gS1 : 1 ≤ S) (gS : S ≤ 16) (b : Nat) (hb1 : b < S) : Met l y_S_load w_S_load ({ frames := 3, cells := 0, slots := 0, locals := 70 }) (va_Pc [.ref hs, .ref hd, .int (nI b)] (k_WT D [(cA, .int)] (wDS cA hd hw hp N S Wo Po hs hv V))) (va_Qv (fun (_ : Unit) => True) (fun _ t => va_P D vwCl (wDS cA hd hw hp N S Wo Po hs hv (ldV N S b Wo Po V)) t.heap) (k_A (wDS cA hd hw hp N S Wo Po hs hv V))) 0 0 (k_A (wDS cA hd hw hp N S Wo Po hs hv V)) := by
  refine Met.ofW (cc := b_S_load) (maxL := 8) (ret := none) (by decide) rfl ?_
  intro p e s m args below meth c s₁ B hml hv
  obtain ⟨rfl, hP, hK, hD0, hTb⟩ := hv
  have hx := B.exec
  have hb := B.bytes
  have hr := B.returns
  have hts0 := atoms_spec (ws := w_S_load) B.pre
  have hts : ∀ w ∈ lw_g, w.before _ s = true := fun w h => hts0 w (List.mem_cons_of_mem _ h)
  have hown : s.vm.findClass R_S = some m.cls := findClass_of_methodNamed B.named
  have hlocks := B.notSynchronized
  have hD := k_Dself hD0
  have hS : va_S (k_A (wDS cA hd hw hp N S Wo Po hs hv V)) s.heap s.heap [] := va_S.rf
  have hl := lv_entry ([.ref hs, .ref hd, .int (nI b)]) (n := 8) (Nat.le_of_ble_eq_true rfl)
  rw [lg_entry_eq]
  generalize (lg_sl ([.ref hs, .ref hd, .int (nI b)]) ++ List.replicate (8 - (lg_sl ([.ref hs, .ref hd, .int (nI b)])).length) Slot.unset).toArray = ls at hl ⊢
  have hl : lv_has ls 8 [(0, .ref hs), (1, .ref hd), (2, .int (nI b))] := hl
  refine lv_iconst (v := (-1)) hx hb d_S_load_0 (by decide) ?_
  refine lv_istore_n (lv' := [(3, .int (-1)), (0, .ref hs), (1, .ref hd), (2, .int (nI b))]) hx hb d_S_load_1 rfl hl (by decide) rfl (fun ls hl => ?_)
  refine lv_iconst (v := (-1)) hx hb d_S_load_2 (by decide) ?_
  refine lv_istore (lv' := [(4, .int (-1)), (3, .int (-1)), (0, .ref hs), (1, .ref hd), (2, .int (nI b))]) hx hb d_S_load_3 hl (by decide) rfl (fun ls hl => ?_)
  refine lv_iconst (v := 0) hx hb d_S_load_5 (by decide) ?_
  refine lv_istore (lv' := [(5, .int 0), (4, .int (-1)), (3, .int (-1)), (0, .ref hs), (1, .ref hd), (2, .int (nI b))]) hx hb d_S_load_6 hl (by decide) rfl (fun ls hl => ?_)
  have L8 : ∀ (k : Nat) (i : Nat) (ls : Array Slot) (H : Heap) (locs : List Loc), i + k = N → lv_has ls 8 [(0, .ref hs), (1, .ref hd), (2, .int (nI b)), (3, .int ((ldL N S b Wo Po V i).2.1)), (4, .int ((ldL N S b Wo Po V i).2.2)), (5, .int (nI i))] → va_P D vwCl (wDS cA hd hw hp N S Wo Po hs hv ((ldL N S b Wo Po V i).1)) H → va_S (k_A (wDS cA hd hw hp N S Wo Po hs hv V)) s.heap H locs → W p l e (headSpec w_S_load ({ frames := 3, cells := 0, slots := 0, locals := 70 })).room s m ([.ref hs, .ref hd, .int (nI b)] : List Value).toArray below meth c H locs 0 0 (MQ below (va_Qv (fun (_ : Unit) => True) (fun _ t => va_P D vwCl (wDS cA hd hw hp N S Wo Po hs hv (ldV N S b Wo Po V)) t.heap) (k_A (wDS cA hd hw hp N S Wo Po hs hv V))) ([.ref hs, .ref hd, .int (nI b)] : List Value).toArray s 0 0 (k_A (wDS cA hd hw hp N S Wo Po hs hv V))) (F0 m 8 ls []) := by
    intro k
    induction k with
    | zero =>
      intro i ls H locs hk hl hP hS
      have hD := k_D (ws' := wDS cA hd hw hp N S Wo Po hs hv ((ldL N S b Wo Po V i).1)) hD rfl
      obtain rfl : N = i := by omega
      refine lv_iload hx hb d_S_load_8 (lv_at hl 5 rfl) ?_
      refine lv_aload_n hx hb d_S_load_10 rfl (lv_at hl 0 rfl) ?_
      refine va_get (D := D) (ci := 2) (v := .ref hv) (C := R_S) (T := T_S) (N := 4) hx hb hts (in_S) hown hK hP 3 rfl rfl 3 (by decide) (hts _ m_f_S_21) (fun _ h9 => h9) rfl d_S_load_11 ?_
      refine va_alen (v := nI N) hx hb hK hP 4 0 rfl rfl rfl d_S_load_14 ?_
      refine lv_icmp_ge (tgt := 90) hx hb d_S_load_15 rfl (fun g15 => ?_) (fun g15 => ?_)
      · have h15 : N ≤ N := (nI_leI (a := N) (b := N) (by omega) (by omega)).mp g15
        refine lv_aload_n hx hb d_S_load_90 rfl (lv_at hl 0 rfl) ?_
        refine lv_iload_n hx hb d_S_load_91 rfl (lv_at hl 3 rfl) ?_
        refine lv_iload hx hb d_S_load_92 (lv_at hl 4 rfl) ?_
        refine k_wrv (va_runV (C := R_S) (As := [.int ((ldL N S b Wo Po V N).2.1), .int ((ldL N S b Wo Po V N).2.2)]) (rest := []) ⟨hx, hb, hml, hown, hts⟩ (c_Stripe_restoreColumns l D cA hs hv N ((ldL N S b Wo Po V N).1) (by omega) (by omega) ((ldL N S b Wo Po V N).2.1) ((ldL N S b Wo Po V N).2.2) (by exact (ldL_fl N S b Wo Po V N (by omega)).1) (by exact (ldL_fl N S b Wo Po V N (by omega)).2)) (k_cwV 2 hts m_code_S_restoreColumns m_ini_S m_l_S_38 m_inst_S_restoreColumns m_sel_S_restoreColumns h_S_restoreColumns rfl rfl ⟨Nat.le_of_ble_eq_true rfl, Nat.le_of_ble_eq_true rfl⟩) (k_pT hP hK hD hTb hS [3, 4] (by decide) rfl 3 2 rfl rfl) rfl rfl hl.1 rfl (lv_room (Nat.le_of_ble_eq_true rfl)) d_S_load_94 ⟨Nat.zero_le _, Nat.zero_le _⟩) hS hD [3, 4] rfl (fun u H1 locs _ hk hP1 hS => ?_)
        have hP : va_P D vwCl (wDS cA hd hw hp N S Wo Po hs hv (rsC N ((ldL N S b Wo Po V N).1) ((ldL N S b Wo Po V N).2.1) ((ldL N S b Wo Po V N).2.2))) H1 := k_bk hP hD [3, 4] [0, 1, 2] rfl (by decide) hk hP1 [0, 1, 2, 3, 4] rfl
        have hD : va_D (k_A (wDS cA hd hw hp N S Wo Po hs hv V)) (wDS cA hd hw hp N S Wo Po hs hv (rsC N ((ldL N S b Wo Po V N).1) ((ldL N S b Wo Po V N).2.1) ((ldL N S b Wo Po V N).2.2))) := k_D hD rfl
        generalize H1 = H at hP hS ⊢
        refine lv_iload_n hx hb d_S_load_97 rfl (lv_at hl 3 rfl) ?_
        refine lv_aload_n hx hb d_S_load_98 rfl (lv_at hl 0 rfl) ?_
        refine va_get (D := D) (ci := 2) (v := .int (nI (N - 2))) (C := R_S) (T := T_S) (N := 4) hx hb hts (in_S) hown hK hP 3 rfl rfl 1 (by decide) (hts _ m_f_S_15) (fun _ h9 => h9) rfl d_S_load_99 ?_
        refine lv_icmp_eq (tgt := 114) hx hb d_S_load_102 rfl (fun g102 => ?_) (fun g102 => ?_)
        · refine lv_aload_n hx hb d_S_load_114 rfl (lv_at hl 0 rfl) ?_
          refine k_wrv (va_runV (C := R_S) (As := []) (rest := []) ⟨hx, hb, hml, hown, hts⟩ (c_Stripe_meetFirstEquation l D cA hs hv N (rsC N ((ldL N S b Wo Po V N).1) ((ldL N S b Wo Po V N).2.1) ((ldL N S b Wo Po V N).2.2)) (by omega) (by omega)) (k_cwV 0 hts m_code_S_meetFirstEquation m_ini_S m_l_S_42 m_inst_S_meetFirstEquation m_sel_S_meetFirstEquation h_S_meetFirstEquation rfl rfl ⟨Nat.le_of_ble_eq_true rfl, Nat.le_of_ble_eq_true rfl⟩) (k_pW hP hK hD [3, 4] (by decide) rfl 3 2 rfl rfl) rfl rfl hl.1 rfl (lv_room (Nat.le_of_ble_eq_true rfl)) d_S_load_115 ⟨Nat.zero_le _, Nat.zero_le _⟩) hS hD [3, 4] rfl (fun u H1 locs _ hk hP1 hS => ?_)
          have hP : va_P D vwCl (wDS cA hd hw hp N S Wo Po hs hv (mF N (rsC N ((ldL N S b Wo Po V N).1) ((ldL N S b Wo Po V N).2.1) ((ldL N S b Wo Po V N).2.2)))) H1 := k_bk hP hD [3, 4] [0, 1, 2] rfl (by decide) hk hP1 [0, 1, 2, 3, 4] rfl
          have hD : va_D (k_A (wDS cA hd hw hp N S Wo Po hs hv V)) (wDS cA hd hw hp N S Wo Po hs hv (mF N (rsC N ((ldL N S b Wo Po V N).1) ((ldL N S b Wo Po V N).2.1) ((ldL N S b Wo Po V N).2.2)))) := k_D hD rfl
          generalize H1 = H at hP hS ⊢
          refine lv_iload_n hx hb d_S_load_118 rfl (lv_at hl 3 rfl) ?_
          refine lv_aload_n hx hb d_S_load_119 rfl (lv_at hl 0 rfl) ?_
          refine va_get (D := D) (ci := 2) (v := .int (nI (N - 1))) (C := R_S) (T := T_S) (N := 4) hx hb hts (in_S) hown hK hP 3 rfl rfl 2 (by decide) (hts _ m_f_S_18) (fun _ h9 => h9) rfl d_S_load_120 ?_
          refine lv_icmp_eq (tgt := 135) hx hb d_S_load_123 rfl (fun g123 => ?_) (fun g123 => ?_)
          · refine lv_aload_n hx hb d_S_load_135 rfl (lv_at hl 0 rfl) ?_
            refine k_wrv (va_runV (C := R_S) (As := []) (rest := []) ⟨hx, hb, hml, hown, hts⟩ (c_Stripe_meetSecondEquation l D cA hs hv N (mF N (rsC N ((ldL N S b Wo Po V N).1) ((ldL N S b Wo Po V N).2.1) ((ldL N S b Wo Po V N).2.2))) (by omega) (by omega)) (k_cwV 0 hts m_code_S_meetSecondEquation m_ini_S m_l_S_45 m_inst_S_meetSecondEquation m_sel_S_meetSecondEquation h_S_meetSecondEquation rfl rfl ⟨Nat.le_of_ble_eq_true rfl, Nat.le_of_ble_eq_true rfl⟩) (k_pW hP hK hD [3, 4] (by decide) rfl 3 2 rfl rfl) rfl rfl hl.1 rfl (lv_room (Nat.le_of_ble_eq_true rfl)) d_S_load_136 ⟨Nat.zero_le _, Nat.zero_le _⟩) hS hD [3, 4] rfl (fun u H1 locs _ hk hP1 hS => ?_)
            have hP : va_P D vwCl (wDS cA hd hw hp N S Wo Po hs hv (mS N (mF N (rsC N ((ldL N S b Wo Po V N).1) ((ldL N S b Wo Po V N).2.1) ((ldL N S b Wo Po V N).2.2))))) H1 := k_bk hP hD [3, 4] [0, 1, 2] rfl (by decide) hk hP1 [0, 1, 2, 3, 4] rfl
            have hD : va_D (k_A (wDS cA hd hw hp N S Wo Po hs hv V)) (wDS cA hd hw hp N S Wo Po hs hv (mS N (mF N (rsC N ((ldL N S b Wo Po V N).1) ((ldL N S b Wo Po V N).2.1) ((ldL N S b Wo Po V N).2.2))))) := k_D hD rfl
            generalize H1 = H at hP hS ⊢
            have e1 : ldV N S b Wo Po V = mS N (mF N (rsC N ((ldL N S b Wo Po V N).1) ((ldL N S b Wo Po V N).2.1) ((ldL N S b Wo Po V N).2.2))) := by first | rfl | ((try unfold ldV); (try unfold ldP); (try unfold ldR); (repeat (first | rw [if_pos g15] | rw [if_neg g15] | rw [if_pos h15] | rw [if_neg h15] | rw [if_pos g102] | rw [if_neg g102] | rw [if_pos g123] | rw [if_neg g123])); first | done | rfl) | (simp [ldL, ldV, ldP, ldR, g15, h15, g102, g123]; done) | omega
            exact W.vret hx hb hr (fun t ht hW => ⟨⟨(), rfl, trivial, by show va_P D vwCl (wDS cA hd hw hp N S Wo Po hs hv (ldV N S b Wo Po V)) t.heap; rw [ht, e1]; exact hP⟩, hS.F ht⟩) hS.2.2 d_S_load_139
          · refine lv_iload hx hb d_S_load_126 (lv_at hl 4 rfl) ?_
            refine lv_aload_n hx hb d_S_load_128 rfl (lv_at hl 0 rfl) ?_
            refine va_get (D := D) (ci := 2) (v := .int (nI (N - 1))) (C := R_S) (T := T_S) (N := 4) hx hb hts (in_S) hown hK hP 3 rfl rfl 2 (by decide) (hts _ m_f_S_18) (fun _ h9 => h9) rfl d_S_load_129 ?_
            refine lv_icmp_ne (tgt := 139) hx hb d_S_load_132 rfl (fun g132 => ?_) (fun g132 => ?_)
            · have e2 : ldV N S b Wo Po V = mF N (rsC N ((ldL N S b Wo Po V N).1) ((ldL N S b Wo Po V N).2.1) ((ldL N S b Wo Po V N).2.2)) := by first | rfl | ((try unfold ldV); (try unfold ldP); (try unfold ldR); (repeat (first | rw [if_pos g15] | rw [if_neg g15] | rw [if_pos h15] | rw [if_neg h15] | rw [if_pos g102] | rw [if_neg g102] | rw [if_pos g123] | rw [if_neg g123] | rw [if_pos g132] | rw [if_neg g132])); first | done | rfl) | (simp [ldL, ldV, ldP, ldR, g15, h15, g102, g123, g132]; done) | omega
              exact W.vret hx hb hr (fun t ht hW => ⟨⟨(), rfl, trivial, by show va_P D vwCl (wDS cA hd hw hp N S Wo Po hs hv (ldV N S b Wo Po V)) t.heap; rw [ht, e2]; exact hP⟩, hS.F ht⟩) hS.2.2 d_S_load_139
            · refine lv_aload_n hx hb d_S_load_135 rfl (lv_at hl 0 rfl) ?_
              refine k_wrv (va_runV (C := R_S) (As := []) (rest := []) ⟨hx, hb, hml, hown, hts⟩ (c_Stripe_meetSecondEquation l D cA hs hv N (mF N (rsC N ((ldL N S b Wo Po V N).1) ((ldL N S b Wo Po V N).2.1) ((ldL N S b Wo Po V N).2.2))) (by omega) (by omega)) (k_cwV 0 hts m_code_S_meetSecondEquation m_ini_S m_l_S_45 m_inst_S_meetSecondEquation m_sel_S_meetSecondEquation h_S_meetSecondEquation rfl rfl ⟨Nat.le_of_ble_eq_true rfl, Nat.le_of_ble_eq_true rfl⟩) (k_pW hP hK hD [3, 4] (by decide) rfl 3 2 rfl rfl) rfl rfl hl.1 rfl (lv_room (Nat.le_of_ble_eq_true rfl)) d_S_load_136 ⟨Nat.zero_le _, Nat.zero_le _⟩) hS hD [3, 4] rfl (fun u H1 locs _ hk hP1 hS => ?_)
              have hP : va_P D vwCl (wDS cA hd hw hp N S Wo Po hs hv (mS N (mF N (rsC N ((ldL N S b Wo Po V N).1) ((ldL N S b Wo Po V N).2.1) ((ldL N S b Wo Po V N).2.2))))) H1 := k_bk hP hD [3, 4] [0, 1, 2] rfl (by decide) hk hP1 [0, 1, 2, 3, 4] rfl
              have hD : va_D (k_A (wDS cA hd hw hp N S Wo Po hs hv V)) (wDS cA hd hw hp N S Wo Po hs hv (mS N (mF N (rsC N ((ldL N S b Wo Po V N).1) ((ldL N S b Wo Po V N).2.1) ((ldL N S b Wo Po V N).2.2))))) := k_D hD rfl
              generalize H1 = H at hP hS ⊢
              have e3 : ldV N S b Wo Po V = mS N (mF N (rsC N ((ldL N S b Wo Po V N).1) ((ldL N S b Wo Po V N).2.1) ((ldL N S b Wo Po V N).2.2))) := by first | rfl | ((try unfold ldV); (try unfold ldP); (try unfold ldR); (repeat (first | rw [if_pos g15] | rw [if_neg g15] | rw [if_pos h15] | rw [if_neg h15] | rw [if_pos g102] | rw [if_neg g102] | rw [if_pos g123] | rw [if_neg g123] | rw [if_pos g132] | rw [if_neg g132])); first | done | rfl) | (simp [ldL, ldV, ldP, ldR, g15, h15, g102, g123, g132]; done) | omega
              exact W.vret hx hb hr (fun t ht hW => ⟨⟨(), rfl, trivial, by show va_P D vwCl (wDS cA hd hw hp N S Wo Po hs hv (ldV N S b Wo Po V)) t.heap; rw [ht, e3]; exact hP⟩, hS.F ht⟩) hS.2.2 d_S_load_139
        · refine lv_iload hx hb d_S_load_105 (lv_at hl 4 rfl) ?_
          refine lv_aload_n hx hb d_S_load_107 rfl (lv_at hl 0 rfl) ?_
          refine va_get (D := D) (ci := 2) (v := .int (nI (N - 2))) (C := R_S) (T := T_S) (N := 4) hx hb hts (in_S) hown hK hP 3 rfl rfl 1 (by decide) (hts _ m_f_S_15) (fun _ h9 => h9) rfl d_S_load_108 ?_
          refine lv_icmp_ne (tgt := 118) hx hb d_S_load_111 rfl (fun g111 => ?_) (fun g111 => ?_)
          · refine lv_iload_n hx hb d_S_load_118 rfl (lv_at hl 3 rfl) ?_
            refine lv_aload_n hx hb d_S_load_119 rfl (lv_at hl 0 rfl) ?_
            refine va_get (D := D) (ci := 2) (v := .int (nI (N - 1))) (C := R_S) (T := T_S) (N := 4) hx hb hts (in_S) hown hK hP 3 rfl rfl 2 (by decide) (hts _ m_f_S_18) (fun _ h9 => h9) rfl d_S_load_120 ?_
            refine lv_icmp_eq (tgt := 135) hx hb d_S_load_123 rfl (fun g123 => ?_) (fun g123 => ?_)
            · refine lv_aload_n hx hb d_S_load_135 rfl (lv_at hl 0 rfl) ?_
              refine k_wrv (va_runV (C := R_S) (As := []) (rest := []) ⟨hx, hb, hml, hown, hts⟩ (c_Stripe_meetSecondEquation l D cA hs hv N (rsC N ((ldL N S b Wo Po V N).1) ((ldL N S b Wo Po V N).2.1) ((ldL N S b Wo Po V N).2.2)) (by omega) (by omega)) (k_cwV 0 hts m_code_S_meetSecondEquation m_ini_S m_l_S_45 m_inst_S_meetSecondEquation m_sel_S_meetSecondEquation h_S_meetSecondEquation rfl rfl ⟨Nat.le_of_ble_eq_true rfl, Nat.le_of_ble_eq_true rfl⟩) (k_pW hP hK hD [3, 4] (by decide) rfl 3 2 rfl rfl) rfl rfl hl.1 rfl (lv_room (Nat.le_of_ble_eq_true rfl)) d_S_load_136 ⟨Nat.zero_le _, Nat.zero_le _⟩) hS hD [3, 4] rfl (fun u H1 locs _ hk hP1 hS => ?_)
              have hP : va_P D vwCl (wDS cA hd hw hp N S Wo Po hs hv (mS N (rsC N ((ldL N S b Wo Po V N).1) ((ldL N S b Wo Po V N).2.1) ((ldL N S b Wo Po V N).2.2)))) H1 := k_bk hP hD [3, 4] [0, 1, 2] rfl (by decide) hk hP1 [0, 1, 2, 3, 4] rfl
              have hD : va_D (k_A (wDS cA hd hw hp N S Wo Po hs hv V)) (wDS cA hd hw hp N S Wo Po hs hv (mS N (rsC N ((ldL N S b Wo Po V N).1) ((ldL N S b Wo Po V N).2.1) ((ldL N S b Wo Po V N).2.2)))) := k_D hD rfl
              generalize H1 = H at hP hS ⊢
              have e4 : ldV N S b Wo Po V = mS N (rsC N ((ldL N S b Wo Po V N).1) ((ldL N S b Wo Po V N).2.1) ((ldL N S b Wo Po V N).2.2)) := by first | rfl | ((try unfold ldV); (try unfold ldP); (try unfold ldR); (repeat (first | rw [if_pos g15] | rw [if_neg g15] | rw [if_pos h15] | rw [if_neg h15] | rw [if_pos g102] | rw [if_neg g102] | rw [if_pos g111] | rw [if_neg g111] | rw [if_pos g123] | rw [if_neg g123])); first | done | rfl) | (simp [ldL, ldV, ldP, ldR, g15, h15, g102, g111, g123]; done) | omega
              exact W.vret hx hb hr (fun t ht hW => ⟨⟨(), rfl, trivial, by show va_P D vwCl (wDS cA hd hw hp N S Wo Po hs hv (ldV N S b Wo Po V)) t.heap; rw [ht, e4]; exact hP⟩, hS.F ht⟩) hS.2.2 d_S_load_139
            · refine lv_iload hx hb d_S_load_126 (lv_at hl 4 rfl) ?_
              refine lv_aload_n hx hb d_S_load_128 rfl (lv_at hl 0 rfl) ?_
              refine va_get (D := D) (ci := 2) (v := .int (nI (N - 1))) (C := R_S) (T := T_S) (N := 4) hx hb hts (in_S) hown hK hP 3 rfl rfl 2 (by decide) (hts _ m_f_S_18) (fun _ h9 => h9) rfl d_S_load_129 ?_
              refine lv_icmp_ne (tgt := 139) hx hb d_S_load_132 rfl (fun g132 => ?_) (fun g132 => ?_)
              · have e5 : ldV N S b Wo Po V = rsC N ((ldL N S b Wo Po V N).1) ((ldL N S b Wo Po V N).2.1) ((ldL N S b Wo Po V N).2.2) := by first | rfl | ((try unfold ldV); (try unfold ldP); (try unfold ldR); (repeat (first | rw [if_pos g15] | rw [if_neg g15] | rw [if_pos h15] | rw [if_neg h15] | rw [if_pos g102] | rw [if_neg g102] | rw [if_pos g111] | rw [if_neg g111] | rw [if_pos g123] | rw [if_neg g123] | rw [if_pos g132] | rw [if_neg g132])); first | done | rfl) | (simp [ldL, ldV, ldP, ldR, g15, h15, g102, g111, g123, g132]; done) | omega
                exact W.vret hx hb hr (fun t ht hW => ⟨⟨(), rfl, trivial, by show va_P D vwCl (wDS cA hd hw hp N S Wo Po hs hv (ldV N S b Wo Po V)) t.heap; rw [ht, e5]; exact hP⟩, hS.F ht⟩) hS.2.2 d_S_load_139
              · refine lv_aload_n hx hb d_S_load_135 rfl (lv_at hl 0 rfl) ?_
                refine k_wrv (va_runV (C := R_S) (As := []) (rest := []) ⟨hx, hb, hml, hown, hts⟩ (c_Stripe_meetSecondEquation l D cA hs hv N (rsC N ((ldL N S b Wo Po V N).1) ((ldL N S b Wo Po V N).2.1) ((ldL N S b Wo Po V N).2.2)) (by omega) (by omega)) (k_cwV 0 hts m_code_S_meetSecondEquation m_ini_S m_l_S_45 m_inst_S_meetSecondEquation m_sel_S_meetSecondEquation h_S_meetSecondEquation rfl rfl ⟨Nat.le_of_ble_eq_true rfl, Nat.le_of_ble_eq_true rfl⟩) (k_pW hP hK hD [3, 4] (by decide) rfl 3 2 rfl rfl) rfl rfl hl.1 rfl (lv_room (Nat.le_of_ble_eq_true rfl)) d_S_load_136 ⟨Nat.zero_le _, Nat.zero_le _⟩) hS hD [3, 4] rfl (fun u H1 locs _ hk hP1 hS => ?_)
                have hP : va_P D vwCl (wDS cA hd hw hp N S Wo Po hs hv (mS N (rsC N ((ldL N S b Wo Po V N).1) ((ldL N S b Wo Po V N).2.1) ((ldL N S b Wo Po V N).2.2)))) H1 := k_bk hP hD [3, 4] [0, 1, 2] rfl (by decide) hk hP1 [0, 1, 2, 3, 4] rfl
                have hD : va_D (k_A (wDS cA hd hw hp N S Wo Po hs hv V)) (wDS cA hd hw hp N S Wo Po hs hv (mS N (rsC N ((ldL N S b Wo Po V N).1) ((ldL N S b Wo Po V N).2.1) ((ldL N S b Wo Po V N).2.2)))) := k_D hD rfl
                generalize H1 = H at hP hS ⊢
                have e6 : ldV N S b Wo Po V = mS N (rsC N ((ldL N S b Wo Po V N).1) ((ldL N S b Wo Po V N).2.1) ((ldL N S b Wo Po V N).2.2)) := by first | rfl | ((try unfold ldV); (try unfold ldP); (try unfold ldR); (repeat (first | rw [if_pos g15] | rw [if_neg g15] | rw [if_pos h15] | rw [if_neg h15] | rw [if_pos g102] | rw [if_neg g102] | rw [if_pos g111] | rw [if_neg g111] | rw [if_pos g123] | rw [if_neg g123] | rw [if_pos g132] | rw [if_neg g132])); first | done | rfl) | (simp [ldL, ldV, ldP, ldR, g15, h15, g102, g111, g123, g132]; done) | omega
                exact W.vret hx hb hr (fun t ht hW => ⟨⟨(), rfl, trivial, by show va_P D vwCl (wDS cA hd hw hp N S Wo Po hs hv (ldV N S b Wo Po V)) t.heap; rw [ht, e6]; exact hP⟩, hS.F ht⟩) hS.2.2 d_S_load_139
          · refine lv_aload_n hx hb d_S_load_114 rfl (lv_at hl 0 rfl) ?_
            refine k_wrv (va_runV (C := R_S) (As := []) (rest := []) ⟨hx, hb, hml, hown, hts⟩ (c_Stripe_meetFirstEquation l D cA hs hv N (rsC N ((ldL N S b Wo Po V N).1) ((ldL N S b Wo Po V N).2.1) ((ldL N S b Wo Po V N).2.2)) (by omega) (by omega)) (k_cwV 0 hts m_code_S_meetFirstEquation m_ini_S m_l_S_42 m_inst_S_meetFirstEquation m_sel_S_meetFirstEquation h_S_meetFirstEquation rfl rfl ⟨Nat.le_of_ble_eq_true rfl, Nat.le_of_ble_eq_true rfl⟩) (k_pW hP hK hD [3, 4] (by decide) rfl 3 2 rfl rfl) rfl rfl hl.1 rfl (lv_room (Nat.le_of_ble_eq_true rfl)) d_S_load_115 ⟨Nat.zero_le _, Nat.zero_le _⟩) hS hD [3, 4] rfl (fun u H1 locs _ hk hP1 hS => ?_)
            have hP : va_P D vwCl (wDS cA hd hw hp N S Wo Po hs hv (mF N (rsC N ((ldL N S b Wo Po V N).1) ((ldL N S b Wo Po V N).2.1) ((ldL N S b Wo Po V N).2.2)))) H1 := k_bk hP hD [3, 4] [0, 1, 2] rfl (by decide) hk hP1 [0, 1, 2, 3, 4] rfl
            have hD : va_D (k_A (wDS cA hd hw hp N S Wo Po hs hv V)) (wDS cA hd hw hp N S Wo Po hs hv (mF N (rsC N ((ldL N S b Wo Po V N).1) ((ldL N S b Wo Po V N).2.1) ((ldL N S b Wo Po V N).2.2)))) := k_D hD rfl
            generalize H1 = H at hP hS ⊢
            refine lv_iload_n hx hb d_S_load_118 rfl (lv_at hl 3 rfl) ?_
            refine lv_aload_n hx hb d_S_load_119 rfl (lv_at hl 0 rfl) ?_
            refine va_get (D := D) (ci := 2) (v := .int (nI (N - 1))) (C := R_S) (T := T_S) (N := 4) hx hb hts (in_S) hown hK hP 3 rfl rfl 2 (by decide) (hts _ m_f_S_18) (fun _ h9 => h9) rfl d_S_load_120 ?_
            refine lv_icmp_eq (tgt := 135) hx hb d_S_load_123 rfl (fun g123 => ?_) (fun g123 => ?_)
            · refine lv_aload_n hx hb d_S_load_135 rfl (lv_at hl 0 rfl) ?_
              refine k_wrv (va_runV (C := R_S) (As := []) (rest := []) ⟨hx, hb, hml, hown, hts⟩ (c_Stripe_meetSecondEquation l D cA hs hv N (mF N (rsC N ((ldL N S b Wo Po V N).1) ((ldL N S b Wo Po V N).2.1) ((ldL N S b Wo Po V N).2.2))) (by omega) (by omega)) (k_cwV 0 hts m_code_S_meetSecondEquation m_ini_S m_l_S_45 m_inst_S_meetSecondEquation m_sel_S_meetSecondEquation h_S_meetSecondEquation rfl rfl ⟨Nat.le_of_ble_eq_true rfl, Nat.le_of_ble_eq_true rfl⟩) (k_pW hP hK hD [3, 4] (by decide) rfl 3 2 rfl rfl) rfl rfl hl.1 rfl (lv_room (Nat.le_of_ble_eq_true rfl)) d_S_load_136 ⟨Nat.zero_le _, Nat.zero_le _⟩) hS hD [3, 4] rfl (fun u H1 locs _ hk hP1 hS => ?_)
              have hP : va_P D vwCl (wDS cA hd hw hp N S Wo Po hs hv (mS N (mF N (rsC N ((ldL N S b Wo Po V N).1) ((ldL N S b Wo Po V N).2.1) ((ldL N S b Wo Po V N).2.2))))) H1 := k_bk hP hD [3, 4] [0, 1, 2] rfl (by decide) hk hP1 [0, 1, 2, 3, 4] rfl
              have hD : va_D (k_A (wDS cA hd hw hp N S Wo Po hs hv V)) (wDS cA hd hw hp N S Wo Po hs hv (mS N (mF N (rsC N ((ldL N S b Wo Po V N).1) ((ldL N S b Wo Po V N).2.1) ((ldL N S b Wo Po V N).2.2))))) := k_D hD rfl
              generalize H1 = H at hP hS ⊢
              have e7 : ldV N S b Wo Po V = mS N (mF N (rsC N ((ldL N S b Wo Po V N).1) ((ldL N S b Wo Po V N).2.1) ((ldL N S b Wo Po V N).2.2))) := by first | rfl | ((try unfold ldV); (try unfold ldP); (try unfold ldR); (repeat (first | rw [if_pos g15] | rw [if_neg g15] | rw [if_pos h15] | rw [if_neg h15] | rw [if_pos g102] | rw [if_neg g102] | rw [if_pos g111] | rw [if_neg g111] | rw [if_pos g123] | rw [if_neg g123])); first | done | rfl) | (simp [ldL, ldV, ldP, ldR, g15, h15, g102, g111, g123]; done) | omega
              exact W.vret hx hb hr (fun t ht hW => ⟨⟨(), rfl, trivial, by show va_P D vwCl (wDS cA hd hw hp N S Wo Po hs hv (ldV N S b Wo Po V)) t.heap; rw [ht, e7]; exact hP⟩, hS.F ht⟩) hS.2.2 d_S_load_139
            · refine lv_iload hx hb d_S_load_126 (lv_at hl 4 rfl) ?_
              refine lv_aload_n hx hb d_S_load_128 rfl (lv_at hl 0 rfl) ?_
              refine va_get (D := D) (ci := 2) (v := .int (nI (N - 1))) (C := R_S) (T := T_S) (N := 4) hx hb hts (in_S) hown hK hP 3 rfl rfl 2 (by decide) (hts _ m_f_S_18) (fun _ h9 => h9) rfl d_S_load_129 ?_
              refine lv_icmp_ne (tgt := 139) hx hb d_S_load_132 rfl (fun g132 => ?_) (fun g132 => ?_)
              · have e8 : ldV N S b Wo Po V = mF N (rsC N ((ldL N S b Wo Po V N).1) ((ldL N S b Wo Po V N).2.1) ((ldL N S b Wo Po V N).2.2)) := by first | rfl | ((try unfold ldV); (try unfold ldP); (try unfold ldR); (repeat (first | rw [if_pos g15] | rw [if_neg g15] | rw [if_pos h15] | rw [if_neg h15] | rw [if_pos g102] | rw [if_neg g102] | rw [if_pos g111] | rw [if_neg g111] | rw [if_pos g123] | rw [if_neg g123] | rw [if_pos g132] | rw [if_neg g132])); first | done | rfl) | (simp [ldL, ldV, ldP, ldR, g15, h15, g102, g111, g123, g132]; done) | omega
                exact W.vret hx hb hr (fun t ht hW => ⟨⟨(), rfl, trivial, by show va_P D vwCl (wDS cA hd hw hp N S Wo Po hs hv (ldV N S b Wo Po V)) t.heap; rw [ht, e8]; exact hP⟩, hS.F ht⟩) hS.2.2 d_S_load_139
              · refine lv_aload_n hx hb d_S_load_135 rfl (lv_at hl 0 rfl) ?_
                refine k_wrv (va_runV (C := R_S) (As := []) (rest := []) ⟨hx, hb, hml, hown, hts⟩ (c_Stripe_meetSecondEquation l D cA hs hv N (mF N (rsC N ((ldL N S b Wo Po V N).1) ((ldL N S b Wo Po V N).2.1) ((ldL N S b Wo Po V N).2.2))) (by omega) (by omega)) (k_cwV 0 hts m_code_S_meetSecondEquation m_ini_S m_l_S_45 m_inst_S_meetSecondEquation m_sel_S_meetSecondEquation h_S_meetSecondEquation rfl rfl ⟨Nat.le_of_ble_eq_true rfl, Nat.le_of_ble_eq_true rfl⟩) (k_pW hP hK hD [3, 4] (by decide) rfl 3 2 rfl rfl) rfl rfl hl.1 rfl (lv_room (Nat.le_of_ble_eq_true rfl)) d_S_load_136 ⟨Nat.zero_le _, Nat.zero_le _⟩) hS hD [3, 4] rfl (fun u H1 locs _ hk hP1 hS => ?_)
                have hP : va_P D vwCl (wDS cA hd hw hp N S Wo Po hs hv (mS N (mF N (rsC N ((ldL N S b Wo Po V N).1) ((ldL N S b Wo Po V N).2.1) ((ldL N S b Wo Po V N).2.2))))) H1 := k_bk hP hD [3, 4] [0, 1, 2] rfl (by decide) hk hP1 [0, 1, 2, 3, 4] rfl
                have hD : va_D (k_A (wDS cA hd hw hp N S Wo Po hs hv V)) (wDS cA hd hw hp N S Wo Po hs hv (mS N (mF N (rsC N ((ldL N S b Wo Po V N).1) ((ldL N S b Wo Po V N).2.1) ((ldL N S b Wo Po V N).2.2))))) := k_D hD rfl
                generalize H1 = H at hP hS ⊢
                have e9 : ldV N S b Wo Po V = mS N (mF N (rsC N ((ldL N S b Wo Po V N).1) ((ldL N S b Wo Po V N).2.1) ((ldL N S b Wo Po V N).2.2))) := by first | rfl | ((try unfold ldV); (try unfold ldP); (try unfold ldR); (repeat (first | rw [if_pos g15] | rw [if_neg g15] | rw [if_pos h15] | rw [if_neg h15] | rw [if_pos g102] | rw [if_neg g102] | rw [if_pos g111] | rw [if_neg g111] | rw [if_pos g123] | rw [if_neg g123] | rw [if_pos g132] | rw [if_neg g132])); first | done | rfl) | (simp [ldL, ldV, ldP, ldR, g15, h15, g102, g111, g123, g132]; done) | omega
                exact W.vret hx hb hr (fun t ht hW => ⟨⟨(), rfl, trivial, by show va_P D vwCl (wDS cA hd hw hp N S Wo Po hs hv (ldV N S b Wo Po V)) t.heap; rw [ht, e9]; exact hP⟩, hS.F ht⟩) hS.2.2 d_S_load_139
      · have h15 : ¬ N ≤ N := fun z => g15 ((nI_leI (a := N) (b := N) (by omega) (by omega)).mpr z)
        exfalso; omega
    | succ k ih =>
      intro i ls H locs hk hl hP hS
      have hD := k_D (ws' := wDS cA hd hw hp N S Wo Po hs hv ((ldL N S b Wo Po V i).1)) hD rfl
      refine lv_iload hx hb d_S_load_8 (lv_at hl 5 rfl) ?_
      refine lv_aload_n hx hb d_S_load_10 rfl (lv_at hl 0 rfl) ?_
      refine va_get (D := D) (ci := 2) (v := .ref hv) (C := R_S) (T := T_S) (N := 4) hx hb hts (in_S) hown hK hP 3 rfl rfl 3 (by decide) (hts _ m_f_S_21) (fun _ h9 => h9) rfl d_S_load_11 ?_
      refine va_alen (v := nI N) hx hb hK hP 4 0 rfl rfl rfl d_S_load_14 ?_
      refine lv_icmp_ge (tgt := 90) hx hb d_S_load_15 rfl (fun g15 => ?_) (fun g15 => ?_)
      · have h15 : N ≤ i := (nI_leI (a := N) (b := i) (by omega) (by omega)).mp g15
        exfalso; omega
      · have h15 : ¬ N ≤ i := fun z => g15 ((nI_leI (a := N) (b := i) (by omega) (by omega)).mpr z)
        refine lv_aload_n hx hb d_S_load_18 rfl (lv_at hl 1 rfl) ?_
        refine lv_iload hx hb d_S_load_19 (lv_at hl 5 rfl) ?_
        refine lv_iload_n hx hb d_S_load_21 rfl (lv_at hl 2 rfl) ?_
        refine k_roi (va_runV (C := R_D) (As := [.int (nI i), .int (nI b)]) (rest := []) ⟨hx, hb, hml, hown, hts⟩ (c_Disks_diskOf l D cA hd hw hp N S Wo Po (by omega) (by omega) (by omega) (by omega) i b (by omega) (by omega)) (k_cwV 2 hts m_code_D_diskOf m_ini_D m_l_S_25 m_inst_D_diskOf m_sel_D_diskOf h_D_diskOf rfl rfl ⟨Nat.le_of_ble_eq_true rfl, Nat.le_of_ble_eq_true rfl⟩) (k_pR hP hK [0, 1, 2] rfl 0 0 rfl rfl) rfl rfl hl.1 rfl (lv_room (Nat.le_of_ble_eq_true rfl)) d_S_load_22 ⟨Nat.zero_le _, Nat.zero_le _⟩) ?_
        have f10 : dk N i b < N := dk_lt (by omega)
        refine lv_istore (lv' := [(6, .int (nI (dk N i b))), (0, .ref hs), (1, .ref hd), (2, .int (nI b)), (3, .int ((ldL N S b Wo Po V i).2.1)), (4, .int ((ldL N S b Wo Po V i).2.2)), (5, .int (nI i))]) hx hb d_S_load_25 hl (by decide) rfl (fun ls hl => ?_)
        refine lv_aload_n hx hb d_S_load_27 rfl (lv_at hl 2 rfl) ?_
        refine lv_iload hx hb d_S_load_28 (lv_at hl 0 rfl) ?_
        refine lv_iload_n hx hb d_S_load_30 rfl (lv_at hl 3 rfl) ?_
        refine k_roi (va_runV (C := R_D) (As := [.int (nI (dk N i b)), .int (nI b)]) (rest := []) ⟨hx, hb, hml, hown, hts⟩ (c_Disks_available l D cA hd hw hp N S Wo Po (by omega) (by omega) (by omega) (by omega) (dk N i b) (nI b) (by omega)) (k_cwV 2 hts m_code_D_available m_ini_D m_l_S_31 m_inst_D_available m_sel_D_available h_D_available rfl rfl ⟨Nat.le_of_ble_eq_true rfl, Nat.le_of_ble_eq_true rfl⟩) (k_pR hP hK [0, 1, 2] rfl 0 0 rfl rfl) rfl rfl hl.1 rfl (lv_room (Nat.le_of_ble_eq_true rfl)) d_S_load_31 ⟨Nat.zero_le _, Nat.zero_le _⟩) ?_
        refine lv_istore (lv' := [(7, .int (bi (decide ((nI b) < Po (dk N i b))))), (6, .int (nI (dk N i b))), (0, .ref hs), (1, .ref hd), (2, .int (nI b)), (3, .int ((ldL N S b Wo Po V i).2.1)), (4, .int ((ldL N S b Wo Po V i).2.2)), (5, .int (nI i))]) hx hb d_S_load_34 hl (by decide) rfl (fun ls hl => ?_)
        refine lv_aload_n hx hb d_S_load_36 rfl (lv_at hl 2 rfl) ?_
        refine va_get (D := D) (ci := 2) (v := .ref hv) (C := R_S) (T := T_S) (N := 4) hx hb hts (in_S) hown hK hP 3 rfl rfl 3 (by decide) (hts _ m_f_S_21) (fun _ h9 => h9) rfl d_S_load_37 ?_
        refine lv_iload hx hb d_S_load_40 (lv_at hl 7 rfl) ?_
        refine lv_iload hx hb d_S_load_42 (lv_at hl 0 rfl) ?_
        refine lv_if_eq (tgt := 57) hx hb d_S_load_44 rfl (fun g44 => ?_) (fun g44 => ?_)
        · have h44 := of_decide_eq_false (bi_z.mp g44)
          refine lv_iconst (v := 0) hx hb d_S_load_57 (by decide) ?_
          refine va_iast (n := N) (f := (ldL N S b Wo Po V i).1) hx hb hK hP hD hS 4 0 rfl rfl (vp_in_nI (by omega) (by omega)) d_S_load_58 (fun H locs hP hD hS => ?_)
          rw [show (nI i : Int32).toNatClampNeg = i from nI_clamp (n := i) (by omega)] at hP hD
          have hP : va_P D vwCl (wDS cA hd hw hp N S Wo Po hs hv (upd ((ldL N S b Wo Po V i).1) i 0)) H := hP
          have hD : va_D (k_A (wDS cA hd hw hp N S Wo Po hs hv V)) (wDS cA hd hw hp N S Wo Po hs hv (upd ((ldL N S b Wo Po V i).1) i 0)) := hD
          refine lv_iload hx hb d_S_load_59 (lv_at hl 0 rfl) ?_
          refine lv_if_ne (tgt := 75) hx hb d_S_load_61 rfl (fun g61 => ?_) (fun g61 => ?_)
          · have h61 := of_decide_eq_true (bi_nz.mp g61)
            exact absurd h61 h44
          · have h61 := of_decide_eq_false (bi_z.mp g61)
            refine lv_iload_n hx hb d_S_load_64 rfl (lv_at hl 5 rfl) ?_
            refine lv_iconst (v := (-1)) hx hb d_S_load_65 (by decide) ?_
            refine lv_icmp_ne (tgt := 75) hx hb d_S_load_66 rfl (fun g66 => ?_) (fun g66 => ?_)
            · refine lv_iload hx hb d_S_load_75 (lv_at hl 0 rfl) ?_
              refine lv_if_ne (tgt := 84) hx hb d_S_load_77 rfl (fun g77 => ?_) (fun g77 => ?_)
              · have h77 := of_decide_eq_true (bi_nz.mp g77)
                exact absurd h77 h61
              · have h77 := of_decide_eq_false (bi_z.mp g77)
                refine lv_iload hx hb d_S_load_80 (lv_at hl 7 rfl) ?_
                refine lv_istore (lv' := [(4, .int (nI i)), (7, .int (bi (decide ((nI b) < Po (dk N i b))))), (6, .int (nI (dk N i b))), (0, .ref hs), (1, .ref hd), (2, .int (nI b)), (3, .int ((ldL N S b Wo Po V i).2.1)), (5, .int (nI i))]) hx hb d_S_load_82 hl (by decide) rfl (fun ls hl => ?_)
                refine lv_iinc (k := 7) (v := nI (i + 1)) (lv' := [(5, .int (nI (i + 1))), (4, .int (nI i)), (7, .int (bi (decide ((nI b) < Po (dk N i b))))), (6, .int (nI (dk N i b))), (0, .ref hs), (1, .ref hd), (2, .int (nI b)), (3, .int ((ldL N S b Wo Po V i).2.1))]) hx hb d_S_load_84 hl rfl (nI_add i 1) (by decide) rfl (fun ls hl => ?_)
                refine lv_goto hx hb d_S_load_87 rfl ?_
                have e11 : (ldL N S b Wo Po V (i + 1)).2.1 = (ldL N S b Wo Po V i).2.1 := by first | rfl | ((try unfold ldV); (try unfold ldP); (try unfold ldR); (repeat (first | rw [if_pos g15] | rw [if_neg g15] | rw [if_pos h15] | rw [if_neg h15] | rw [if_pos g44] | rw [if_neg g44] | rw [if_pos h44] | rw [if_neg h44] | rw [if_pos g61] | rw [if_neg g61] | rw [if_pos h61] | rw [if_neg h61] | rw [if_pos g66] | rw [if_neg g66] | rw [if_pos g77] | rw [if_neg g77] | rw [if_pos h77] | rw [if_neg h77])); first | done | rfl) | (simp [ldL, ldV, ldP, ldR, g15, h15, g44, h44, g61, h61, g66, g77, h77]; done) | omega
                have e12 : (ldL N S b Wo Po V (i + 1)).2.2 = nI i := by first | rfl | ((try unfold ldV); (try unfold ldP); (try unfold ldR); (repeat (first | rw [if_pos g15] | rw [if_neg g15] | rw [if_pos h15] | rw [if_neg h15] | rw [if_pos g44] | rw [if_neg g44] | rw [if_pos h44] | rw [if_neg h44] | rw [if_pos g61] | rw [if_neg g61] | rw [if_pos h61] | rw [if_neg h61] | rw [if_pos g66] | rw [if_neg g66] | rw [if_pos g77] | rw [if_neg g77] | rw [if_pos h77] | rw [if_neg h77])); first | done | rfl) | (simp [ldL, ldV, ldP, ldR, g15, h15, g44, h44, g61, h61, g66, g77, h77]; done) | omega
                have e13 : (ldL N S b Wo Po V (i + 1)).1 = upd ((ldL N S b Wo Po V i).1) i 0 := by first | rfl | ((try unfold ldV); (try unfold ldP); (try unfold ldR); (repeat (first | rw [if_pos g15] | rw [if_neg g15] | rw [if_pos h15] | rw [if_neg h15] | rw [if_pos g44] | rw [if_neg g44] | rw [if_pos h44] | rw [if_neg h44] | rw [if_pos g61] | rw [if_neg g61] | rw [if_pos h61] | rw [if_neg h61] | rw [if_pos g66] | rw [if_neg g66] | rw [if_pos g77] | rw [if_neg g77] | rw [if_pos h77] | rw [if_neg h77])); first | done | rfl) | (simp [ldL, ldV, ldP, ldR, g15, h15, g44, h44, g61, h61, g66, g77, h77]; done) | omega
                exact ih (i + 1) ls H locs (by omega) (by rw [e11, e12]; exact lv_sub hl [4, 5, 6, 7, 1, 0] rfl) (by rw [e13]; exact hP) hS
            · refine lv_iload hx hb d_S_load_69 (lv_at hl 7 rfl) ?_
              refine lv_istore_n (lv' := [(3, .int (nI i)), (7, .int (bi (decide ((nI b) < Po (dk N i b))))), (6, .int (nI (dk N i b))), (0, .ref hs), (1, .ref hd), (2, .int (nI b)), (4, .int ((ldL N S b Wo Po V i).2.2)), (5, .int (nI i))]) hx hb d_S_load_71 rfl hl (by decide) rfl (fun ls hl => ?_)
              refine lv_goto hx hb d_S_load_72 rfl ?_
              refine lv_iinc (k := 7) (v := nI (i + 1)) (lv' := [(5, .int (nI (i + 1))), (3, .int (nI i)), (7, .int (bi (decide ((nI b) < Po (dk N i b))))), (6, .int (nI (dk N i b))), (0, .ref hs), (1, .ref hd), (2, .int (nI b)), (4, .int ((ldL N S b Wo Po V i).2.2))]) hx hb d_S_load_84 hl rfl (nI_add i 1) (by decide) rfl (fun ls hl => ?_)
              refine lv_goto hx hb d_S_load_87 rfl ?_
              have e14 : (ldL N S b Wo Po V (i + 1)).2.1 = nI i := by first | rfl | ((try unfold ldV); (try unfold ldP); (try unfold ldR); (repeat (first | rw [if_pos g15] | rw [if_neg g15] | rw [if_pos h15] | rw [if_neg h15] | rw [if_pos g44] | rw [if_neg g44] | rw [if_pos h44] | rw [if_neg h44] | rw [if_pos g61] | rw [if_neg g61] | rw [if_pos h61] | rw [if_neg h61] | rw [if_pos g66] | rw [if_neg g66])); first | done | rfl) | (simp [ldL, ldV, ldP, ldR, g15, h15, g44, h44, g61, h61, g66]; done) | omega
              have e15 : (ldL N S b Wo Po V (i + 1)).2.2 = (ldL N S b Wo Po V i).2.2 := by first | rfl | ((try unfold ldV); (try unfold ldP); (try unfold ldR); (repeat (first | rw [if_pos g15] | rw [if_neg g15] | rw [if_pos h15] | rw [if_neg h15] | rw [if_pos g44] | rw [if_neg g44] | rw [if_pos h44] | rw [if_neg h44] | rw [if_pos g61] | rw [if_neg g61] | rw [if_pos h61] | rw [if_neg h61] | rw [if_pos g66] | rw [if_neg g66])); first | done | rfl) | (simp [ldL, ldV, ldP, ldR, g15, h15, g44, h44, g61, h61, g66]; done) | omega
              have e16 : (ldL N S b Wo Po V (i + 1)).1 = upd ((ldL N S b Wo Po V i).1) i 0 := by first | rfl | ((try unfold ldV); (try unfold ldP); (try unfold ldR); (repeat (first | rw [if_pos g15] | rw [if_neg g15] | rw [if_pos h15] | rw [if_neg h15] | rw [if_pos g44] | rw [if_neg g44] | rw [if_pos h44] | rw [if_neg h44] | rw [if_pos g61] | rw [if_neg g61] | rw [if_pos h61] | rw [if_neg h61] | rw [if_pos g66] | rw [if_neg g66])); first | done | rfl) | (simp [ldL, ldV, ldP, ldR, g15, h15, g44, h44, g61, h61, g66]; done) | omega
              exact ih (i + 1) ls H locs (by omega) (by rw [e14, e15]; exact lv_sub hl [4, 5, 6, 1, 7, 0] rfl) (by rw [e16]; exact hP) hS
        · have h44 := of_decide_eq_true (bi_nz.mp g44)
          refine lv_aload_n hx hb d_S_load_47 rfl (lv_at hl 3 rfl) ?_
          refine lv_iload hx hb d_S_load_48 (lv_at hl 1 rfl) ?_
          refine lv_iload_n hx hb d_S_load_50 rfl (lv_at hl 4 rfl) ?_
          refine k_roi (va_runV (C := R_D) (As := [.int (nI (dk N i b)), .int (nI b)]) (rest := [.int (nI i), .ref hv]) ⟨hx, hb, hml, hown, hts⟩ (c_Disks_wordAt l D cA hd hw hp N S Wo Po (by omega) (by omega) (by omega) (by omega) (dk N i b) b (by omega) (by omega)) (k_cwV 2 hts m_code_D_wordAt m_ini_D m_l_S_35 m_inst_D_wordAt m_sel_D_wordAt h_D_wordAt rfl rfl ⟨Nat.le_of_ble_eq_true rfl, Nat.le_of_ble_eq_true rfl⟩) (k_pR hP hK [0, 1, 2] rfl 0 0 rfl rfl) rfl rfl hl.1 rfl (lv_room (Nat.le_of_ble_eq_true rfl)) d_S_load_51 ⟨Nat.zero_le _, Nat.zero_le _⟩) ?_
          refine lv_goto hx hb d_S_load_54 rfl ?_
          refine va_iast (n := N) (f := (ldL N S b Wo Po V i).1) hx hb hK hP hD hS 4 0 rfl rfl (vp_in_nI (by omega) (by omega)) d_S_load_58 (fun H locs hP hD hS => ?_)
          rw [show (nI i : Int32).toNatClampNeg = i from nI_clamp (n := i) (by omega)] at hP hD
          have hP : va_P D vwCl (wDS cA hd hw hp N S Wo Po hs hv (upd ((ldL N S b Wo Po V i).1) i (Wo ((dk N i b) * S + b)))) H := hP
          have hD : va_D (k_A (wDS cA hd hw hp N S Wo Po hs hv V)) (wDS cA hd hw hp N S Wo Po hs hv (upd ((ldL N S b Wo Po V i).1) i (Wo ((dk N i b) * S + b)))) := hD
          refine lv_iload hx hb d_S_load_59 (lv_at hl 0 rfl) ?_
          refine lv_if_ne (tgt := 75) hx hb d_S_load_61 rfl (fun g61 => ?_) (fun g61 => ?_)
          · have h61 := of_decide_eq_true (bi_nz.mp g61)
            refine lv_iload hx hb d_S_load_75 (lv_at hl 0 rfl) ?_
            refine lv_if_ne (tgt := 84) hx hb d_S_load_77 rfl (fun g77 => ?_) (fun g77 => ?_)
            · have h77 := of_decide_eq_true (bi_nz.mp g77)
              refine lv_iinc (k := 7) (v := nI (i + 1)) (lv' := [(5, .int (nI (i + 1))), (7, .int (bi (decide ((nI b) < Po (dk N i b))))), (6, .int (nI (dk N i b))), (0, .ref hs), (1, .ref hd), (2, .int (nI b)), (3, .int ((ldL N S b Wo Po V i).2.1)), (4, .int ((ldL N S b Wo Po V i).2.2))]) hx hb d_S_load_84 hl rfl (nI_add i 1) (by decide) rfl (fun ls hl => ?_)
              refine lv_goto hx hb d_S_load_87 rfl ?_
              have e17 : (ldL N S b Wo Po V (i + 1)).2.1 = (ldL N S b Wo Po V i).2.1 := by first | rfl | ((try unfold ldV); (try unfold ldP); (try unfold ldR); (repeat (first | rw [if_pos g15] | rw [if_neg g15] | rw [if_pos h15] | rw [if_neg h15] | rw [if_pos g44] | rw [if_neg g44] | rw [if_pos h44] | rw [if_neg h44] | rw [if_pos g61] | rw [if_neg g61] | rw [if_pos h61] | rw [if_neg h61] | rw [if_pos g77] | rw [if_neg g77] | rw [if_pos h77] | rw [if_neg h77])); first | done | rfl) | (simp [ldL, ldV, ldP, ldR, g15, h15, g44, h44, g61, h61, g77, h77]; done) | omega
              have e18 : (ldL N S b Wo Po V (i + 1)).2.2 = (ldL N S b Wo Po V i).2.2 := by first | rfl | ((try unfold ldV); (try unfold ldP); (try unfold ldR); (repeat (first | rw [if_pos g15] | rw [if_neg g15] | rw [if_pos h15] | rw [if_neg h15] | rw [if_pos g44] | rw [if_neg g44] | rw [if_pos h44] | rw [if_neg h44] | rw [if_pos g61] | rw [if_neg g61] | rw [if_pos h61] | rw [if_neg h61] | rw [if_pos g77] | rw [if_neg g77] | rw [if_pos h77] | rw [if_neg h77])); first | done | rfl) | (simp [ldL, ldV, ldP, ldR, g15, h15, g44, h44, g61, h61, g77, h77]; done) | omega
              have e19 : (ldL N S b Wo Po V (i + 1)).1 = upd ((ldL N S b Wo Po V i).1) i (Wo ((dk N i b) * S + b)) := by first | rfl | ((try unfold ldV); (try unfold ldP); (try unfold ldR); (repeat (first | rw [if_pos g15] | rw [if_neg g15] | rw [if_pos h15] | rw [if_neg h15] | rw [if_pos g44] | rw [if_neg g44] | rw [if_pos h44] | rw [if_neg h44] | rw [if_pos g61] | rw [if_neg g61] | rw [if_pos h61] | rw [if_neg h61] | rw [if_pos g77] | rw [if_neg g77] | rw [if_pos h77] | rw [if_neg h77])); first | done | rfl) | (simp [ldL, ldV, ldP, ldR, g15, h15, g44, h44, g61, h61, g77, h77]; done) | omega
              exact ih (i + 1) ls H locs (by omega) (by rw [e17, e18]; exact lv_sub hl [3, 4, 5, 6, 7, 0] rfl) (by rw [e19]; exact hP) hS
            · have h77 := of_decide_eq_false (bi_z.mp g77)
              exact absurd h61 h77
          · have h61 := of_decide_eq_false (bi_z.mp g61)
            exact absurd h44 h61
  have e20 : (ldL N S b Wo Po V 0).2.1 = (-1) := by first | rfl | (simp [ldL, ldV, ldP, ldR]; done) | omega
  have e21 : (ldL N S b Wo Po V 0).2.2 = (-1) := by first | rfl | (simp [ldL, ldV, ldP, ldR]; done) | omega
  have e22 : nI 0 = 0 := by first | rfl | (simp [ldL, ldV, ldP, ldR]; done) | omega
  have e23 : (ldL N S b Wo Po V 0).1 = V := by first | rfl | (simp [ldL, ldV, ldP, ldR]; done) | omega
  exact L8 N 0 ls s.heap [] (by omega) (by rw [e20, e21, e22]; exact lv_sub hl [3, 4, 5, 2, 1, 0] rfl) (by rw [e23]; exact hP) hS
set_option maxHeartbeats 4000000 in
set_option maxRecDepth 100000 in
theorem c_Stripe_setColumns (l : Launch) (D : va_G) (cA : ClassId) (hs hv N : Nat) (V : Fn) (gN4 : 4 ≤ N) (gN : N ≤ 10) (f n : Nat) (v : Int32) (hfn : f + n ≤ N - 2) : Met l y_S_setColumns w_S_setColumns ({ frames := 3, cells := 0, slots := 0, locals := 62 }) (va_Pc [.ref hs, .int (nI f), .int (nI n), .int v] (k_Wc D [(cA, .int)] (wS cA hs hv N V))) (va_Qv (fun (_ : Unit) => True) (fun _ t => va_P D vwCl (wS cA hs hv N (setC N V f n v)) t.heap) (k_A (wS cA hs hv N V))) 0 0 (k_A (wS cA hs hv N V)) := by
  refine Met.ofW (cc := b_S_setColumns) (maxL := 5) (ret := none) (by decide) rfl ?_
  intro p e s m args below meth c s₁ B hml hv
  obtain ⟨rfl, hP, hK, hD0⟩ := hv
  have hx := B.exec
  have hb := B.bytes
  have hr := B.returns
  have hts0 := atoms_spec (ws := w_S_setColumns) B.pre
  have hts : ∀ w ∈ lw_g, w.before _ s = true := fun w h => hts0 w (List.mem_cons_of_mem _ h)
  have hown : s.vm.findClass R_S = some m.cls := findClass_of_methodNamed B.named
  have hlocks := B.notSynchronized
  have hD := k_Dself hD0
  have hS : va_S (k_A (wS cA hs hv N V)) s.heap s.heap [] := va_S.rf
  have hl := lv_entry ([.ref hs, .int (nI f), .int (nI n), .int v]) (n := 5) (Nat.le_of_ble_eq_true rfl)
  rw [lg_entry_eq]
  generalize (lg_sl ([.ref hs, .int (nI f), .int (nI n), .int v]) ++ List.replicate (5 - (lg_sl ([.ref hs, .int (nI f), .int (nI n), .int v])).length) Slot.unset).toArray = ls at hl ⊢
  have hl : lv_has ls 5 [(0, .ref hs), (1, .int (nI f)), (2, .int (nI n)), (3, .int v)] := hl
  refine lv_iconst (v := 0) hx hb d_S_setColumns_0 (by decide) ?_
  refine lv_istore (lv' := [(4, .int 0), (0, .ref hs), (1, .int (nI f)), (2, .int (nI n)), (3, .int v)]) hx hb d_S_setColumns_1 hl (by decide) rfl (fun ls hl => ?_)
  have L3 : ∀ (k : Nat) (i : Nat) (ls : Array Slot) (H : Heap) (locs : List Loc), i + k = n → lv_has ls 5 [(0, .ref hs), (1, .int (nI f)), (2, .int (nI n)), (3, .int v), (4, .int (nI i))] → va_P D vwCl (wS cA hs hv N (stC V f v i)) H → va_S (k_A (wS cA hs hv N V)) s.heap H locs → W p l e (headSpec w_S_setColumns ({ frames := 3, cells := 0, slots := 0, locals := 62 })).room s m ([.ref hs, .int (nI f), .int (nI n), .int v] : List Value).toArray below meth c H locs 0 0 (MQ below (va_Qv (fun (_ : Unit) => True) (fun _ t => va_P D vwCl (wS cA hs hv N (setC N V f n v)) t.heap) (k_A (wS cA hs hv N V))) ([.ref hs, .int (nI f), .int (nI n), .int v] : List Value).toArray s 0 0 (k_A (wS cA hs hv N V))) (F0 m 3 ls []) := by
    intro k
    induction k with
    | zero =>
      intro i ls H locs hk hl hP hS
      have hD := k_D (ws' := wS cA hs hv N (stC V f v i)) hD rfl
      obtain rfl : n = i := by omega
      refine lv_iload hx hb d_S_setColumns_3 (lv_at hl 4 rfl) ?_
      refine lv_iload_n hx hb d_S_setColumns_5 rfl (lv_at hl 2 rfl) ?_
      refine lv_icmp_ge (tgt := 28) hx hb d_S_setColumns_6 rfl (fun g6 => ?_) (fun g6 => ?_)
      · have h6 : n ≤ n := (nI_leI (a := n) (b := n) (by omega) (by omega)).mp g6
        refine lv_aload_n hx hb d_S_setColumns_28 rfl (lv_at hl 0 rfl) ?_
        refine k_wrv (va_runV (C := R_S) (As := []) (rest := []) ⟨hx, hb, hml, hown, hts⟩ (c_Stripe_meetFirstEquation l D cA hs hv N (stC V f v n) (by omega) (by omega)) (k_cwV 0 hts m_code_S_meetFirstEquation m_ini_S m_l_S_42 m_inst_S_meetFirstEquation m_sel_S_meetFirstEquation h_S_meetFirstEquation rfl rfl ⟨Nat.le_of_ble_eq_true rfl, Nat.le_of_ble_eq_true rfl⟩) (k_pW hP hK hD [0, 1] (by decide) rfl 0 2 rfl rfl) rfl rfl hl.1 rfl (lv_room (Nat.le_of_ble_eq_true rfl)) d_S_setColumns_29 ⟨Nat.zero_le _, Nat.zero_le _⟩) hS hD [0, 1] rfl (fun u H1 locs _ hk hP1 hS => ?_)
        have hP : va_P D vwCl (wS cA hs hv N (mF N (stC V f v n))) H1 := hP1
        have hD : va_D (k_A (wS cA hs hv N V)) (wS cA hs hv N (mF N (stC V f v n))) := k_D hD rfl
        generalize H1 = H at hP hS ⊢
        refine lv_aload_n hx hb d_S_setColumns_32 rfl (lv_at hl 0 rfl) ?_
        refine k_wrv (va_runV (C := R_S) (As := []) (rest := []) ⟨hx, hb, hml, hown, hts⟩ (c_Stripe_meetSecondEquation l D cA hs hv N (mF N (stC V f v n)) (by omega) (by omega)) (k_cwV 0 hts m_code_S_meetSecondEquation m_ini_S m_l_S_45 m_inst_S_meetSecondEquation m_sel_S_meetSecondEquation h_S_meetSecondEquation rfl rfl ⟨Nat.le_of_ble_eq_true rfl, Nat.le_of_ble_eq_true rfl⟩) (k_pW hP hK hD [0, 1] (by decide) rfl 0 2 rfl rfl) rfl rfl hl.1 rfl (lv_room (Nat.le_of_ble_eq_true rfl)) d_S_setColumns_33 ⟨Nat.zero_le _, Nat.zero_le _⟩) hS hD [0, 1] rfl (fun u H1 locs _ hk hP1 hS => ?_)
        have hP : va_P D vwCl (wS cA hs hv N (mS N (mF N (stC V f v n)))) H1 := hP1
        have hD : va_D (k_A (wS cA hs hv N V)) (wS cA hs hv N (mS N (mF N (stC V f v n)))) := k_D hD rfl
        generalize H1 = H at hP hS ⊢
        have e1 : setC N V f n v = mS N (mF N (stC V f v n)) := by first | rfl | ((try unfold setC); (repeat (first | rw [if_pos g6] | rw [if_neg g6] | rw [if_pos h6] | rw [if_neg h6])); first | done | rfl) | (simp [setC, stC, g6, h6]; done) | omega
        exact W.vret hx hb hr (fun t ht hW => ⟨⟨(), rfl, trivial, by show va_P D vwCl (wS cA hs hv N (setC N V f n v)) t.heap; rw [ht, e1]; exact hP⟩, hS.F ht⟩) hS.2.2 d_S_setColumns_36
      · have h6 : ¬ n ≤ n := fun z => g6 ((nI_leI (a := n) (b := n) (by omega) (by omega)).mpr z)
        exfalso; omega
    | succ k ih =>
      intro i ls H locs hk hl hP hS
      have hD := k_D (ws' := wS cA hs hv N (stC V f v i)) hD rfl
      refine lv_iload hx hb d_S_setColumns_3 (lv_at hl 4 rfl) ?_
      refine lv_iload_n hx hb d_S_setColumns_5 rfl (lv_at hl 2 rfl) ?_
      refine lv_icmp_ge (tgt := 28) hx hb d_S_setColumns_6 rfl (fun g6 => ?_) (fun g6 => ?_)
      · have h6 : n ≤ i := (nI_leI (a := n) (b := i) (by omega) (by omega)).mp g6
        exfalso; omega
      · have h6 : ¬ n ≤ i := fun z => g6 ((nI_leI (a := n) (b := i) (by omega) (by omega)).mpr z)
        refine lv_aload_n hx hb d_S_setColumns_9 rfl (lv_at hl 0 rfl) ?_
        refine va_get (D := D) (ci := 2) (v := .ref hv) (C := R_S) (T := T_S) (N := 4) hx hb hts (in_S) hown hK hP 0 rfl rfl 3 (by decide) (hts _ m_f_S_21) (fun _ h9 => h9) rfl d_S_setColumns_10 ?_
        refine lv_iload_n hx hb d_S_setColumns_13 rfl (lv_at hl 1 rfl) ?_
        refine lv_iload hx hb d_S_setColumns_14 (lv_at hl 4 rfl) ?_
        refine lv_iadd hx hb d_S_setColumns_16 ?_
        refine k_top (nI (f + i)) (nI_add f i) ?_
        refine lv_iload_n hx hb d_S_setColumns_17 rfl (lv_at hl 3 rfl) ?_
        refine lv_iload hx hb d_S_setColumns_18 (lv_at hl 4 rfl) ?_
        refine lv_iadd hx hb d_S_setColumns_20 ?_
        refine va_iast (n := N) (f := stC V f v i) hx hb hK hP hD hS 1 0 rfl rfl (vp_in_nI (by omega) (by omega)) d_S_setColumns_21 (fun H locs hP hD hS => ?_)
        rw [show (nI (f + i) : Int32).toNatClampNeg = f + i from nI_clamp (n := f + i) (by omega)] at hP hD
        have hP : va_P D vwCl (wS cA hs hv N (upd (stC V f v i) (f + i) (v + (nI i)))) H := hP
        have hD : va_D (k_A (wS cA hs hv N V)) (wS cA hs hv N (upd (stC V f v i) (f + i) (v + (nI i)))) := hD
        refine lv_iinc (k := 4) (v := nI (i + 1)) (lv' := [(4, .int (nI (i + 1))), (0, .ref hs), (1, .int (nI f)), (2, .int (nI n)), (3, .int v)]) hx hb d_S_setColumns_22 hl rfl (nI_add i 1) (by decide) rfl (fun ls hl => ?_)
        refine lv_goto hx hb d_S_setColumns_25 rfl ?_
        have e2 : stC V f v (i + 1) = upd (stC V f v i) (f + i) (v + (nI i)) := by first | rfl | ((try unfold setC); (repeat (first | rw [if_pos g6] | rw [if_neg g6] | rw [if_pos h6] | rw [if_neg h6])); first | done | rfl) | (simp [setC, stC, g6, h6]; done) | omega
        exact ih (i + 1) ls H locs (by omega) (lv_sub hl [1, 2, 3, 4, 0] rfl) (by rw [e2]; exact hP) hS
  have e3 : nI 0 = 0 := by first | rfl | (simp [setC, stC]; done) | omega
  have e4 : stC V f v 0 = V := by first | rfl | (simp [setC, stC]; done) | omega
  exact L3 n 0 ls s.heap [] (by omega) (by rw [e3]; exact lv_sub hl [1, 2, 3, 4, 0] rfl) (by rw [e4]; exact hP) hS
set_option maxHeartbeats 4000000 in
set_option maxRecDepth 100000 in
theorem c_Stripe_changeColumns (l : Launch) (D : va_G) (cA : ClassId) (hs hv N : Nat) (V : Fn) (gN4 : 4 ≤ N) (gN : N ≤ 10) (f n : Nat) (v : Int32) (hfn : f + n ≤ N - 2) : Met l y_S_changeColumns w_S_changeColumns ({ frames := 2, cells := 0, slots := 0, locals := 43 }) (va_Pc [.ref hs, .int (nI f), .int (nI n), .int v] (k_Wc D [(cA, .int)] (wS cA hs hv N V))) (va_Qv (fun (_ : Unit) => True) (fun _ t => va_P D vwCl (wS cA hs hv N (chC N V f v n)) t.heap) (k_A (wS cA hs hv N V))) 0 0 (k_A (wS cA hs hv N V)) := by
  refine Met.ofW (cc := b_S_changeColumns) (maxL := 7) (ret := none) (by decide) rfl ?_
  intro p e s m args below meth c s₁ B hml hv
  obtain ⟨rfl, hP, hK, hD0⟩ := hv
  have hx := B.exec
  have hb := B.bytes
  have hr := B.returns
  have hts0 := atoms_spec (ws := w_S_changeColumns) B.pre
  have hts : ∀ w ∈ lw_g, w.before _ s = true := fun w h => hts0 w (List.mem_cons_of_mem _ h)
  have hown : s.vm.findClass R_S = some m.cls := findClass_of_methodNamed B.named
  have hlocks := B.notSynchronized
  have hD := k_Dself hD0
  have hS : va_S (k_A (wS cA hs hv N V)) s.heap s.heap [] := va_S.rf
  have hl := lv_entry ([.ref hs, .int (nI f), .int (nI n), .int v]) (n := 7) (Nat.le_of_ble_eq_true rfl)
  rw [lg_entry_eq]
  generalize (lg_sl ([.ref hs, .int (nI f), .int (nI n), .int v]) ++ List.replicate (7 - (lg_sl ([.ref hs, .int (nI f), .int (nI n), .int v])).length) Slot.unset).toArray = ls at hl ⊢
  have hl : lv_has ls 7 [(0, .ref hs), (1, .int (nI f)), (2, .int (nI n)), (3, .int v)] := hl
  refine lv_iconst (v := 0) hx hb d_S_changeColumns_0 (by decide) ?_
  refine lv_istore (lv' := [(4, .int 0), (0, .ref hs), (1, .int (nI f)), (2, .int (nI n)), (3, .int v)]) hx hb d_S_changeColumns_1 hl (by decide) rfl (fun ls hl => ?_)
  have L3 : ∀ (k : Nat) (i : Nat) (ls : Array Slot) (H : Heap) (locs : List Loc), i + k = n → lv_has ls 7 [(0, .ref hs), (1, .int (nI f)), (2, .int (nI n)), (3, .int v), (4, .int (nI i))] → va_P D vwCl (wS cA hs hv N (chC N V f v i)) H → va_S (k_A (wS cA hs hv N V)) s.heap H locs → W p l e (headSpec w_S_changeColumns ({ frames := 2, cells := 0, slots := 0, locals := 43 })).room s m ([.ref hs, .int (nI f), .int (nI n), .int v] : List Value).toArray below meth c H locs 0 0 (MQ below (va_Qv (fun (_ : Unit) => True) (fun _ t => va_P D vwCl (wS cA hs hv N (chC N V f v n)) t.heap) (k_A (wS cA hs hv N V))) ([.ref hs, .int (nI f), .int (nI n), .int v] : List Value).toArray s 0 0 (k_A (wS cA hs hv N V))) (F0 m 3 ls []) := by
    intro k
    induction k with
    | zero =>
      intro i ls H locs hk hl hP hS
      have hD := k_D (ws' := wS cA hs hv N (chC N V f v i)) hD rfl
      obtain rfl : n = i := by omega
      refine lv_iload hx hb d_S_changeColumns_3 (lv_at hl 4 rfl) ?_
      refine lv_iload_n hx hb d_S_changeColumns_5 rfl (lv_at hl 2 rfl) ?_
      refine lv_icmp_ge (tgt := 79) hx hb d_S_changeColumns_6 rfl (fun g6 => ?_) (fun g6 => ?_)
      · have h6 : n ≤ n := (nI_leI (a := n) (b := n) (by omega) (by omega)).mp g6
        exact W.vret hx hb hr (fun t ht hW => ⟨⟨(), rfl, trivial, by show va_P D vwCl (wS cA hs hv N (chC N V f v n)) t.heap; rw [ht]; exact hP⟩, hS.F ht⟩) hS.2.2 d_S_changeColumns_79
      · have h6 : ¬ n ≤ n := fun z => g6 ((nI_leI (a := n) (b := n) (by omega) (by omega)).mpr z)
        exfalso; omega
    | succ k ih =>
      intro i ls H locs hk hl hP hS
      have hD := k_D (ws' := wS cA hs hv N (chC N V f v i)) hD rfl
      refine lv_iload hx hb d_S_changeColumns_3 (lv_at hl 4 rfl) ?_
      refine lv_iload_n hx hb d_S_changeColumns_5 rfl (lv_at hl 2 rfl) ?_
      refine lv_icmp_ge (tgt := 79) hx hb d_S_changeColumns_6 rfl (fun g6 => ?_) (fun g6 => ?_)
      · have h6 : n ≤ i := (nI_leI (a := n) (b := i) (by omega) (by omega)).mp g6
        exfalso; omega
      · have h6 : ¬ n ≤ i := fun z => g6 ((nI_leI (a := n) (b := i) (by omega) (by omega)).mpr z)
        refine lv_iload_n hx hb d_S_changeColumns_9 rfl (lv_at hl 1 rfl) ?_
        refine lv_iload hx hb d_S_changeColumns_10 (lv_at hl 4 rfl) ?_
        refine lv_iadd hx hb d_S_changeColumns_12 ?_
        refine k_top (nI (f + i)) (nI_add f i) ?_
        refine lv_istore (lv' := [(5, .int (nI (f + i))), (0, .ref hs), (1, .int (nI f)), (2, .int (nI n)), (3, .int v), (4, .int (nI i))]) hx hb d_S_changeColumns_13 hl (by decide) rfl (fun ls hl => ?_)
        refine lv_aload_n hx hb d_S_changeColumns_15 rfl (lv_at hl 1 rfl) ?_
        refine va_get (D := D) (ci := 2) (v := .ref hv) (C := R_S) (T := T_S) (N := 4) hx hb hts (in_S) hown hK hP 0 rfl rfl 3 (by decide) (hts _ m_f_S_21) (fun _ h9 => h9) rfl d_S_changeColumns_16 ?_
        refine lv_iload hx hb d_S_changeColumns_19 (lv_at hl 0 rfl) ?_
        refine va_iald (n := N) (f := chC N V f v i) hx hb hK hP 1 0 rfl rfl (vp_in_nI (by omega) (by omega)) d_S_changeColumns_21 ?_
        refine k_top ((chC N V f v i) (f + i)) (by rw [show (nI (f + i) : Int32).toNatClampNeg = f + i from nI_clamp (n := f + i) (by omega)]) ?_
        refine lv_iload_n hx hb d_S_changeColumns_22 rfl (lv_at hl 4 rfl) ?_
        refine lv_iload hx hb d_S_changeColumns_23 (lv_at hl 5 rfl) ?_
        refine lv_iadd hx hb d_S_changeColumns_25 ?_
        refine lv_ixor hx hb d_S_changeColumns_26 ?_
        refine lv_istore (lv' := [(6, .int (((chC N V f v i) (f + i)) ^^^ (v + (nI i)))), (5, .int (nI (f + i))), (0, .ref hs), (1, .int (nI f)), (2, .int (nI n)), (3, .int v), (4, .int (nI i))]) hx hb d_S_changeColumns_27 hl (by decide) rfl (fun ls hl => ?_)
        refine lv_aload_n hx hb d_S_changeColumns_29 rfl (lv_at hl 2 rfl) ?_
        refine va_get (D := D) (ci := 2) (v := .ref hv) (C := R_S) (T := T_S) (N := 4) hx hb hts (in_S) hown hK hP 0 rfl rfl 3 (by decide) (hts _ m_f_S_21) (fun _ h9 => h9) rfl d_S_changeColumns_30 ?_
        refine lv_iload hx hb d_S_changeColumns_33 (lv_at hl 1 rfl) ?_
        refine lv_iload_n hx hb d_S_changeColumns_35 rfl (lv_at hl 5 rfl) ?_
        refine lv_iload hx hb d_S_changeColumns_36 (lv_at hl 6 rfl) ?_
        refine lv_iadd hx hb d_S_changeColumns_38 ?_
        refine va_iast (n := N) (f := chC N V f v i) hx hb hK hP hD hS 1 0 rfl rfl (vp_in_nI (by omega) (by omega)) d_S_changeColumns_39 (fun H locs hP hD hS => ?_)
        rw [show (nI (f + i) : Int32).toNatClampNeg = f + i from nI_clamp (n := f + i) (by omega)] at hP hD
        have hP : va_P D vwCl (wS cA hs hv N (upd (chC N V f v i) (f + i) (v + (nI i)))) H := hP
        have hD : va_D (k_A (wS cA hs hv N V)) (wS cA hs hv N (upd (chC N V f v i) (f + i) (v + (nI i)))) := hD
        refine lv_aload_n hx hb d_S_changeColumns_40 rfl (lv_at hl 2 rfl) ?_
        refine va_get (D := D) (ci := 2) (v := .ref hv) (C := R_S) (T := T_S) (N := 4) hx hb hts (in_S) hown hK hP 0 rfl rfl 3 (by decide) (hts _ m_f_S_21) (fun _ h9 => h9) rfl d_S_changeColumns_41 ?_
        refine lv_aload_n hx hb d_S_changeColumns_44 rfl (lv_at hl 2 rfl) ?_
        refine va_get (D := D) (ci := 2) (v := .int (nI (N - 2))) (C := R_S) (T := T_S) (N := 4) hx hb hts (in_S) hown hK hP 0 rfl rfl 1 (by decide) (hts _ m_f_S_15) (fun _ h9 => h9) rfl d_S_changeColumns_45 ?_
        refine lv_dup2_11 hx hb d_S_changeColumns_48 rfl rfl ?_
        refine va_iald (n := N) (f := upd (chC N V f v i) (f + i) (v + (nI i))) hx hb hK hP 1 0 rfl rfl (vp_in_nI (by omega) (by omega)) d_S_changeColumns_49 ?_
        refine k_top ((upd (chC N V f v i) (f + i) (v + (nI i))) (N - 2)) (by rw [show (nI (N - 2) : Int32).toNatClampNeg = N - 2 from nI_clamp (n := N - 2) (by omega)]) ?_
        refine lv_iload hx hb d_S_changeColumns_50 (lv_at hl 0 rfl) ?_
        refine lv_ixor hx hb d_S_changeColumns_52 ?_
        refine va_iast (n := N) (f := upd (chC N V f v i) (f + i) (v + (nI i))) hx hb hK hP hD hS 1 0 rfl rfl (vp_in_nI (by omega) (by omega)) d_S_changeColumns_53 (fun H locs hP hD hS => ?_)
        rw [show (nI (N - 2) : Int32).toNatClampNeg = N - 2 from nI_clamp (n := N - 2) (by omega)] at hP hD
        have hP : va_P D vwCl (wS cA hs hv N (upd (upd (chC N V f v i) (f + i) (v + (nI i))) (N - 2) (((upd (chC N V f v i) (f + i) (v + (nI i))) (N - 2)) ^^^ (((chC N V f v i) (f + i)) ^^^ (v + (nI i)))))) H := hP
        have hD : va_D (k_A (wS cA hs hv N V)) (wS cA hs hv N (upd (upd (chC N V f v i) (f + i) (v + (nI i))) (N - 2) (((upd (chC N V f v i) (f + i) (v + (nI i))) (N - 2)) ^^^ (((chC N V f v i) (f + i)) ^^^ (v + (nI i)))))) := hD
        refine lv_aload_n hx hb d_S_changeColumns_54 rfl (lv_at hl 2 rfl) ?_
        refine va_get (D := D) (ci := 2) (v := .ref hv) (C := R_S) (T := T_S) (N := 4) hx hb hts (in_S) hown hK hP 0 rfl rfl 3 (by decide) (hts _ m_f_S_21) (fun _ h9 => h9) rfl d_S_changeColumns_55 ?_
        refine lv_aload_n hx hb d_S_changeColumns_58 rfl (lv_at hl 2 rfl) ?_
        refine va_get (D := D) (ci := 2) (v := .int (nI (N - 1))) (C := R_S) (T := T_S) (N := 4) hx hb hts (in_S) hown hK hP 0 rfl rfl 2 (by decide) (hts _ m_f_S_18) (fun _ h9 => h9) rfl d_S_changeColumns_59 ?_
        refine lv_dup2_11 hx hb d_S_changeColumns_62 rfl rfl ?_
        refine va_iald (n := N) (f := upd (upd (chC N V f v i) (f + i) (v + (nI i))) (N - 2) (((upd (chC N V f v i) (f + i) (v + (nI i))) (N - 2)) ^^^ (((chC N V f v i) (f + i)) ^^^ (v + (nI i))))) hx hb hK hP 1 0 rfl rfl (vp_in_nI (by omega) (by omega)) d_S_changeColumns_63 ?_
        refine k_top ((upd (upd (chC N V f v i) (f + i) (v + (nI i))) (N - 2) (((upd (chC N V f v i) (f + i) (v + (nI i))) (N - 2)) ^^^ (((chC N V f v i) (f + i)) ^^^ (v + (nI i))))) (N - 1)) (by rw [show (nI (N - 1) : Int32).toNatClampNeg = N - 1 from nI_clamp (n := N - 1) (by omega)]) ?_
        refine lv_iload hx hb d_S_changeColumns_64 (lv_at hl 1 rfl) ?_
        refine lv_iload hx hb d_S_changeColumns_66 (lv_at hl 0 rfl) ?_
        refine k_roi (va_runS (As := [.int (nI (f + i)), .int (((chC N V f v i) (f + i)) ^^^ (v + (nI i)))]) (rest := [.int ((upd (upd (chC N V f v i) (f + i) (v + (nI i))) (N - 2) (((upd (chC N V f v i) (f + i) (v + (nI i))) (N - 2)) ^^^ (((chC N V f v i) (f + i)) ^^^ (v + (nI i))))) (N - 1)), .int (nI (N - 1)), .ref hv]) ⟨hx, hb, hml, hown, hts⟩ (c_Words_timesPower l D (f + i) (((chC N V f v i) (f + i)) ^^^ (v + (nI i))) (by omega)) (k_cwS 2 hts m_code_W_timesPower m_ini_W m_l_S_67 m_stat_W_timesPower h_W_timesPower rfl rfl ⟨Nat.le_of_ble_eq_true rfl, Nat.le_of_ble_eq_true rfl⟩) (k_s0) rfl rfl hl.1 rfl (lv_room (Nat.le_of_ble_eq_true rfl)) d_S_changeColumns_68 ⟨Nat.zero_le _, Nat.zero_le _⟩) ?_
        refine lv_ixor hx hb d_S_changeColumns_71 ?_
        refine va_iast (n := N) (f := upd (upd (chC N V f v i) (f + i) (v + (nI i))) (N - 2) (((upd (chC N V f v i) (f + i) (v + (nI i))) (N - 2)) ^^^ (((chC N V f v i) (f + i)) ^^^ (v + (nI i))))) hx hb hK hP hD hS 1 0 rfl rfl (vp_in_nI (by omega) (by omega)) d_S_changeColumns_72 (fun H locs hP hD hS => ?_)
        rw [show (nI (N - 1) : Int32).toNatClampNeg = N - 1 from nI_clamp (n := N - 1) (by omega)] at hP hD
        have hP : va_P D vwCl (wS cA hs hv N (upd (upd (upd (chC N V f v i) (f + i) (v + (nI i))) (N - 2) (((upd (chC N V f v i) (f + i) (v + (nI i))) (N - 2)) ^^^ (((chC N V f v i) (f + i)) ^^^ (v + (nI i))))) (N - 1) (((upd (upd (chC N V f v i) (f + i) (v + (nI i))) (N - 2) (((upd (chC N V f v i) (f + i) (v + (nI i))) (N - 2)) ^^^ (((chC N V f v i) (f + i)) ^^^ (v + (nI i))))) (N - 1)) ^^^ (dblN (f + i) (((chC N V f v i) (f + i)) ^^^ (v + (nI i))))))) H := hP
        have hD : va_D (k_A (wS cA hs hv N V)) (wS cA hs hv N (upd (upd (upd (chC N V f v i) (f + i) (v + (nI i))) (N - 2) (((upd (chC N V f v i) (f + i) (v + (nI i))) (N - 2)) ^^^ (((chC N V f v i) (f + i)) ^^^ (v + (nI i))))) (N - 1) (((upd (upd (chC N V f v i) (f + i) (v + (nI i))) (N - 2) (((upd (chC N V f v i) (f + i) (v + (nI i))) (N - 2)) ^^^ (((chC N V f v i) (f + i)) ^^^ (v + (nI i))))) (N - 1)) ^^^ (dblN (f + i) (((chC N V f v i) (f + i)) ^^^ (v + (nI i))))))) := hD
        refine lv_iinc (k := 6) (v := nI (i + 1)) (lv' := [(4, .int (nI (i + 1))), (6, .int (((chC N V f v i) (f + i)) ^^^ (v + (nI i)))), (5, .int (nI (f + i))), (0, .ref hs), (1, .int (nI f)), (2, .int (nI n)), (3, .int v)]) hx hb d_S_changeColumns_73 hl rfl (nI_add i 1) (by decide) rfl (fun ls hl => ?_)
        refine lv_goto hx hb d_S_changeColumns_76 rfl ?_
        have e1 : chC N V f v (i + 1) = upd (upd (upd (chC N V f v i) (f + i) (v + (nI i))) (N - 2) (((upd (chC N V f v i) (f + i) (v + (nI i))) (N - 2)) ^^^ (((chC N V f v i) (f + i)) ^^^ (v + (nI i))))) (N - 1) (((upd (upd (chC N V f v i) (f + i) (v + (nI i))) (N - 2) (((upd (chC N V f v i) (f + i) (v + (nI i))) (N - 2)) ^^^ (((chC N V f v i) (f + i)) ^^^ (v + (nI i))))) (N - 1)) ^^^ (dblN (f + i) (((chC N V f v i) (f + i)) ^^^ (v + (nI i))))) := by first | rfl | ((try unfold chS); (repeat (first | rw [if_pos g6] | rw [if_neg g6] | rw [if_pos h6] | rw [if_neg h6])); first | done | rfl) | (simp [chC, chS, g6, h6]; done) | omega
        exact ih (i + 1) ls H locs (by omega) (lv_sub hl [3, 4, 5, 6, 0] rfl) (by rw [e1]; exact hP) hS
  have e2 : nI 0 = 0 := by first | rfl | (simp [chC, chS]; done) | omega
  have e3 : chC N V f v 0 = V := by first | rfl | (simp [chC, chS]; done) | omega
  exact L3 n 0 ls s.heap [] (by omega) (by rw [e2]; exact lv_sub hl [1, 2, 3, 4, 0] rfl) (by rw [e3]; exact hP) hS
