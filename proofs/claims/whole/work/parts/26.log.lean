set_option maxHeartbeats 4000000 in
set_option maxRecDepth 100000 in
theorem c_Log_holdsEntry (l : Launch) (D : va_G) (cA : ClassId) (hg hx1 N : Nat) (ls1 lf lc : Int32) (X : Fn) (gN4 : 4 ≤ N) (gN : N ≤ 10) : Met l y_L_holdsEntry w_L_holdsEntry ({ frames := 0, cells := 0, slots := 0, locals := 0 }) (va_Pc [.ref hg] (k_R D [(cA, .int)] (wL cA hg hx1 N ls1 lf lc X))) (k_Ro (some (.int (bi (decide (¬ ls1 = -1)))))) 0 0 (fun _ => False) := by
  refine Met.ofW (cc := b_L_holdsEntry) (maxL := 1) (ret := (some .boolean)) (by decide) rfl ?_
  intro p e s m args below meth c s₁ B hml hv
  obtain ⟨rfl, hP, hK⟩ := hv
  have hx := B.exec
  have hb := B.bytes
  have hr := B.returns
  have hts0 := atoms_spec (ws := w_L_holdsEntry) B.pre
  have hts : ∀ w ∈ lw_g, w.before _ s = true := fun w h => hts0 w (List.mem_cons_of_mem _ h)
  have hown : s.vm.findClass R_L = some m.cls := findClass_of_methodNamed B.named
  have hlocks := B.notSynchronized
  have hl := lv_entry ([.ref hg]) (n := 1) (Nat.le_of_ble_eq_true rfl)
  rw [lg_entry_eq]
  generalize (lg_sl ([.ref hg]) ++ List.replicate (1 - (lg_sl ([.ref hg])).length) Slot.unset).toArray = ls at hl ⊢
  have hl : lv_has ls 1 [(0, .ref hg)] := hl
  refine lv_aload_n hx hb d_L_holdsEntry_0 rfl (lv_at hl 0 rfl) ?_
  refine va_get (D := D) (ci := 1) (v := .int ls1) (C := R_L) (T := T_L) (N := 4) hx hb hts (in_L) hown hK hP 0 rfl rfl 1 (by decide) (hts _ m_f_L_15) (fun _ h9 => h9) rfl d_L_holdsEntry_1 ?_
  refine lv_iconst (v := (-1)) hx hb d_L_holdsEntry_4 (by decide) ?_
  refine lv_icmp_eq (tgt := 12) hx hb d_L_holdsEntry_5 rfl (fun g5 => ?_) (fun g5 => ?_)
  · refine lv_iconst (v := 0) hx hb d_L_holdsEntry_12 (by decide) ?_
    refine k_top (bi (decide (¬ ls1 = -1))) (by rw [decide_eq_false (show ¬ ((¬ ls1 = -1)) by first | assumption | omega | exact fun z => g5 z.1 | exact fun z => g5 z.2 | exact fun z => z.elim (fun z => by omega) (fun z => g5 z.1) | exact fun z => z.elim (fun z => by omega) (fun z => g5 z.2) | (simp [bi, g5]; done))]; rfl) ?_
    exact W.zret (v := bi (decide (¬ ls1 = -1))) (ty := .boolean) hx hb hr (bi_n _) (fun t ht hW => ⟨rfl, ht⟩) (fun _ h => by cases h) d_L_holdsEntry_13
  · refine lv_iconst (v := 1) hx hb d_L_holdsEntry_8 (by decide) ?_
    refine lv_goto hx hb d_L_holdsEntry_9 rfl ?_
    refine k_top (bi (decide (¬ ls1 = -1))) (by rw [decide_eq_true (show (¬ ls1 = -1) by first | assumption | omega | exact ⟨by assumption, by assumption⟩ | exact ⟨⟨by assumption, by assumption⟩, by assumption⟩ | exact Or.inl (by first | assumption | omega) | exact Or.inr ⟨by assumption, by assumption⟩ | (simp [bi, g5]; done))]; rfl) ?_
    exact W.zret (v := bi (decide (¬ ls1 = -1))) (ty := .boolean) hx hb hr (bi_n _) (fun t ht hW => ⟨rfl, ht⟩) (fun _ h => by cases h) d_L_holdsEntry_13
set_option maxHeartbeats 4000000 in
set_option maxRecDepth 100000 in
theorem c_Log_sealedStripe (l : Launch) (D : va_G) (cA : ClassId) (hg hx1 N : Nat) (ls1 lf lc : Int32) (X : Fn) (gN4 : 4 ≤ N) (gN : N ≤ 10) : Met l y_L_sealedStripe w_L_sealedStripe ({ frames := 0, cells := 0, slots := 0, locals := 0 }) (va_Pc [.ref hg] (k_R D [(cA, .int)] (wL cA hg hx1 N ls1 lf lc X))) (k_Ro (some (.int ls1))) 0 0 (fun _ => False) := by
  refine Met.ofW (cc := b_L_sealedStripe) (maxL := 1) (ret := (some .int)) (by decide) rfl ?_
  intro p e s m args below meth c s₁ B hml hv
  obtain ⟨rfl, hP, hK⟩ := hv
  have hx := B.exec
  have hb := B.bytes
  have hr := B.returns
  have hts0 := atoms_spec (ws := w_L_sealedStripe) B.pre
  have hts : ∀ w ∈ lw_g, w.before _ s = true := fun w h => hts0 w (List.mem_cons_of_mem _ h)
  have hown : s.vm.findClass R_L = some m.cls := findClass_of_methodNamed B.named
  have hlocks := B.notSynchronized
  have hl := lv_entry ([.ref hg]) (n := 1) (Nat.le_of_ble_eq_true rfl)
  rw [lg_entry_eq]
  generalize (lg_sl ([.ref hg]) ++ List.replicate (1 - (lg_sl ([.ref hg])).length) Slot.unset).toArray = ls at hl ⊢
  have hl : lv_has ls 1 [(0, .ref hg)] := hl
  refine lv_aload_n hx hb d_L_sealedStripe_0 rfl (lv_at hl 0 rfl) ?_
  refine va_get (D := D) (ci := 1) (v := .int ls1) (C := R_L) (T := T_L) (N := 4) hx hb hts (in_L) hown hK hP 0 rfl rfl 1 (by decide) (hts _ m_f_L_15) (fun _ h9 => h9) rfl d_L_sealedStripe_1 ?_
  exact W.iret (v := ls1) hx hb hr (fun t ht hW => ⟨rfl, ht⟩) (fun _ h => by cases h) d_L_sealedStripe_4
set_option maxHeartbeats 4000000 in
set_option maxRecDepth 100000 in
theorem c_Log_wordOf (l : Launch) (D : va_G) (cA : ClassId) (hg hx1 N : Nat) (ls1 lf lc : Int32) (X : Fn) (gN4 : 4 ≤ N) (gN : N ≤ 10) (a : Nat) (ha : a < N) : Met l y_L_wordOf w_L_wordOf ({ frames := 0, cells := 0, slots := 0, locals := 0 }) (va_Pc [.ref hg, .int (nI a)] (k_R D [(cA, .int)] (wL cA hg hx1 N ls1 lf lc X))) (k_Ro (some (.int (X a)))) 0 0 (fun _ => False) := by
  refine Met.ofW (cc := b_L_wordOf) (maxL := 2) (ret := (some .int)) (by decide) rfl ?_
  intro p e s m args below meth c s₁ B hml hv
  obtain ⟨rfl, hP, hK⟩ := hv
  have hx := B.exec
  have hb := B.bytes
  have hr := B.returns
  have hts0 := atoms_spec (ws := w_L_wordOf) B.pre
  have hts : ∀ w ∈ lw_g, w.before _ s = true := fun w h => hts0 w (List.mem_cons_of_mem _ h)
  have hown : s.vm.findClass R_L = some m.cls := findClass_of_methodNamed B.named
  have hlocks := B.notSynchronized
  have hl := lv_entry ([.ref hg, .int (nI a)]) (n := 2) (Nat.le_of_ble_eq_true rfl)
  rw [lg_entry_eq]
  generalize (lg_sl ([.ref hg, .int (nI a)]) ++ List.replicate (2 - (lg_sl ([.ref hg, .int (nI a)])).length) Slot.unset).toArray = ls at hl ⊢
  have hl : lv_has ls 2 [(0, .ref hg), (1, .int (nI a))] := hl
  refine lv_aload_n hx hb d_L_wordOf_0 rfl (lv_at hl 0 rfl) ?_
  refine va_get (D := D) (ci := 1) (v := .ref hx1) (C := R_L) (T := T_L) (N := 4) hx hb hts (in_L) hown hK hP 0 rfl rfl 0 (by decide) (hts _ m_f_L_9) (fun _ h9 => h9) rfl d_L_wordOf_1 ?_
  refine lv_iload_n hx hb d_L_wordOf_4 rfl (lv_at hl 1 rfl) ?_
  refine va_iald (n := N) (f := X) hx hb hK hP 1 0 rfl rfl (vp_in_nI (by omega) (by omega)) d_L_wordOf_5 ?_
  refine k_top (X a) (by rw [show (nI a : Int32).toNatClampNeg = a from nI_clamp (n := a) (by omega)]) ?_
  exact W.iret (v := X a) hx hb hr (fun t ht hW => ⟨rfl, ht⟩) (fun _ h => by cases h) d_L_wordOf_6
set_option maxHeartbeats 4000000 in
set_option maxRecDepth 100000 in
theorem c_Log_clear (l : Launch) (D : va_G) (cA : ClassId) (hg hx1 N : Nat) (ls1 lf lc : Int32) (X : Fn) (gN4 : 4 ≤ N) (gN : N ≤ 10) : Met l y_L_clear w_L_clear ({ frames := 0, cells := 0, slots := 0, locals := 0 }) (va_Pc [.ref hg] (k_Wc D [(cA, .int)] (wL cA hg hx1 N ls1 lf lc X))) (va_Qv (fun (_ : Unit) => True) (fun _ t => va_P D vwCl (wL cA hg hx1 N (-1) lf lc X) t.heap) (k_A (wL cA hg hx1 N ls1 lf lc X))) 0 0 (k_A (wL cA hg hx1 N ls1 lf lc X)) := by
  refine Met.ofW (cc := b_L_clear) (maxL := 1) (ret := none) (by decide) rfl ?_
  intro p e s m args below meth c s₁ B hml hv
  obtain ⟨rfl, hP, hK, hD0⟩ := hv
  have hx := B.exec
  have hb := B.bytes
  have hr := B.returns
  have hts0 := atoms_spec (ws := w_L_clear) B.pre
  have hts : ∀ w ∈ lw_g, w.before _ s = true := fun w h => hts0 w (List.mem_cons_of_mem _ h)
  have hown : s.vm.findClass R_L = some m.cls := findClass_of_methodNamed B.named
  have hlocks := B.notSynchronized
  have hD := k_Dself hD0
  have hS : va_S (k_A (wL cA hg hx1 N ls1 lf lc X)) s.heap s.heap [] := va_S.rf
  have hl := lv_entry ([.ref hg]) (n := 1) (Nat.le_of_ble_eq_true rfl)
  rw [lg_entry_eq]
  generalize (lg_sl ([.ref hg]) ++ List.replicate (1 - (lg_sl ([.ref hg])).length) Slot.unset).toArray = ls at hl ⊢
  have hl : lv_has ls 1 [(0, .ref hg)] := hl
  refine lv_aload_n hx hb d_L_clear_0 rfl (lv_at hl 0 rfl) ?_
  refine lv_iconst (v := (-1)) hx hb d_L_clear_1 (by decide) ?_
  refine va_put (D := D) (ci := 1) (v := .int (-1)) (ty := .int) (C := R_L) (T := T_L) (N := 4) hx hb hts (in_L) ty_L tyok_L nm_L hown hK hP hD hS 0 rfl rfl 1 (by decide) (hts _ m_f_L_15) (fun _ h9 => h9) rfl (by decide +kernel) rfl rfl (Nat.le_of_ble_eq_true rfl) d_L_clear_2 (fun H locs hP hD hS => ?_)
  have hP : va_P D vwCl (wL cA hg hx1 N (-1) lf lc X) H := hP
  have hD : va_D (k_A (wL cA hg hx1 N ls1 lf lc X)) (wL cA hg hx1 N (-1) lf lc X) := hD
  exact W.vret hx hb hr (fun t ht hW => ⟨⟨(), rfl, trivial, by show va_P D vwCl (wL cA hg hx1 N (-1) lf lc X) t.heap; rw [ht]; exact hP⟩, hS.F ht⟩) hS.2.2 d_L_clear_5
set_option maxHeartbeats 4000000 in
set_option maxRecDepth 100000 in
theorem c_Log_bears (l : Launch) (D : va_G) (cA : ClassId) (hg hx1 N : Nat) (ls1 lf lc : Int32) (X : Fn) (gN4 : 4 ≤ N) (gN : N ≤ 10) (a : Nat) (ha : a < N) : Met l y_L_bears w_L_bears ({ frames := 0, cells := 0, slots := 0, locals := 0 }) (va_Pc [.ref hg, .int (nI a)] (k_R D [(cA, .int)] (wL cA hg hx1 N ls1 lf lc X))) (k_Ro (some (.int (bi (decide (N - 2 ≤ a ∨ (lf ≤ nI a ∧ nI a < lf + lc))))))) 0 0 (fun _ => False) := by
  refine Met.ofW (cc := b_L_bears) (maxL := 3) (ret := (some .boolean)) (by decide) rfl ?_
  intro p e s m args below meth c s₁ B hml hv
  obtain ⟨rfl, hP, hK⟩ := hv
  have hx := B.exec
  have hb := B.bytes
  have hr := B.returns
  have hts0 := atoms_spec (ws := w_L_bears) B.pre
  have hts : ∀ w ∈ lw_g, w.before _ s = true := fun w h => hts0 w (List.mem_cons_of_mem _ h)
  have hown : s.vm.findClass R_L = some m.cls := findClass_of_methodNamed B.named
  have hlocks := B.notSynchronized
  have hl := lv_entry ([.ref hg, .int (nI a)]) (n := 3) (Nat.le_of_ble_eq_true rfl)
  rw [lg_entry_eq]
  generalize (lg_sl ([.ref hg, .int (nI a)]) ++ List.replicate (3 - (lg_sl ([.ref hg, .int (nI a)])).length) Slot.unset).toArray = ls at hl ⊢
  have hl : lv_has ls 3 [(0, .ref hg), (1, .int (nI a))] := hl
  refine lv_iload_n hx hb d_L_bears_0 rfl (lv_at hl 1 rfl) ?_
  refine lv_aload_n hx hb d_L_bears_1 rfl (lv_at hl 0 rfl) ?_
  refine va_get (D := D) (ci := 1) (v := .ref hx1) (C := R_L) (T := T_L) (N := 4) hx hb hts (in_L) hown hK hP 0 rfl rfl 0 (by decide) (hts _ m_f_L_9) (fun _ h9 => h9) rfl d_L_bears_2 ?_
  refine va_alen (v := nI N) hx hb hK hP 1 0 rfl rfl rfl d_L_bears_5 ?_
  refine lv_iconst (v := 2) hx hb d_L_bears_6 (by decide) ?_
  refine lv_isub hx hb d_L_bears_7 ?_
  refine k_top (nI (N - 2)) (pk_sub (a := N) (b := 2) (by omega)) ?_
  refine lv_icmp_lt (tgt := 15) hx hb d_L_bears_8 rfl (fun g8 => ?_) (fun g8 => ?_)
  · have h8 : a < (N - 2) := (nI_ltI (a := a) (b := N - 2) (by omega) (by omega)).mp g8
    refine lv_iconst (v := 0) hx hb d_L_bears_15 (by decide) ?_
    refine lv_istore_n (lv' := [(2, .int 0), (0, .ref hg), (1, .int (nI a))]) hx hb d_L_bears_16 rfl hl (by decide) rfl (fun ls hl => ?_)
    refine lv_iload_n hx hb d_L_bears_17 rfl (lv_at hl 0 rfl) ?_
    refine lv_if_ne (tgt := 42) hx hb d_L_bears_18 rfl (fun g18 => ?_) (fun g18 => ?_)
    · exact absurd g18 (by decide)
    · refine lv_iload_n hx hb d_L_bears_21 rfl (lv_at hl 2 rfl) ?_
      refine lv_aload_n hx hb d_L_bears_22 rfl (lv_at hl 1 rfl) ?_
      refine va_get (D := D) (ci := 1) (v := .int lf) (C := R_L) (T := T_L) (N := 4) hx hb hts (in_L) hown hK hP 0 rfl rfl 2 (by decide) (hts _ m_f_L_19) (fun _ h9 => h9) rfl d_L_bears_23 ?_
      refine lv_icmp_lt (tgt := 46) hx hb d_L_bears_26 rfl (fun g26 => ?_) (fun g26 => ?_)
      · have h26 := Int32.not_le.mpr g26
        refine lv_iconst (v := 0) hx hb d_L_bears_46 (by decide) ?_
        refine k_top (bi (decide (N - 2 ≤ a ∨ (lf ≤ nI a ∧ nI a < lf + lc)))) (by rw [decide_eq_false (show ¬ ((N - 2 ≤ a ∨ (lf ≤ nI a ∧ nI a < lf + lc))) by first | assumption | omega | exact fun z => g8 z.1 | exact fun z => g8 z.2 | exact fun z => z.elim (fun z => by omega) (fun z => g8 z.1) | exact fun z => z.elim (fun z => by omega) (fun z => g8 z.2) | exact fun z => h8 z.1 | exact fun z => h8 z.2 | exact fun z => z.elim (fun z => by omega) (fun z => h8 z.1) | exact fun z => z.elim (fun z => by omega) (fun z => h8 z.2) | exact fun z => g18 z.1 | exact fun z => g18 z.2 | exact fun z => z.elim (fun z => by omega) (fun z => g18 z.1) | exact fun z => z.elim (fun z => by omega) (fun z => g18 z.2) | exact fun z => g26 z.1 | exact fun z => g26 z.2 | exact fun z => z.elim (fun z => by omega) (fun z => g26 z.1) | exact fun z => z.elim (fun z => by omega) (fun z => g26 z.2) | exact fun z => h26 z.1 | exact fun z => h26 z.2 | exact fun z => z.elim (fun z => by omega) (fun z => h26 z.1) | exact fun z => z.elim (fun z => by omega) (fun z => h26 z.2) | (simp [bi, g8, h8, g18, g26, h26]; done))]; rfl) ?_
        exact W.zret (v := bi (decide (N - 2 ≤ a ∨ (lf ≤ nI a ∧ nI a < lf + lc)))) (ty := .boolean) hx hb hr (bi_n _) (fun t ht hW => ⟨rfl, ht⟩) (fun _ h => by cases h) d_L_bears_47
      · have h26 := Int32.not_lt.mp g26
        refine lv_iload_n hx hb d_L_bears_29 rfl (lv_at hl 2 rfl) ?_
        refine lv_aload_n hx hb d_L_bears_30 rfl (lv_at hl 1 rfl) ?_
        refine va_get (D := D) (ci := 1) (v := .int lf) (C := R_L) (T := T_L) (N := 4) hx hb hts (in_L) hown hK hP 0 rfl rfl 2 (by decide) (hts _ m_f_L_19) (fun _ h9 => h9) rfl d_L_bears_31 ?_
        refine lv_aload_n hx hb d_L_bears_34 rfl (lv_at hl 1 rfl) ?_
        refine va_get (D := D) (ci := 1) (v := .int lc) (C := R_L) (T := T_L) (N := 4) hx hb hts (in_L) hown hK hP 0 rfl rfl 3 (by decide) (hts _ m_f_L_22) (fun _ h9 => h9) rfl d_L_bears_35 ?_
        refine lv_iadd hx hb d_L_bears_38 ?_
        refine lv_icmp_ge (tgt := 46) hx hb d_L_bears_39 rfl (fun g39 => ?_) (fun g39 => ?_)
        · have h39 := Int32.not_lt.mpr g39
          refine lv_iconst (v := 0) hx hb d_L_bears_46 (by decide) ?_
          refine k_top (bi (decide (N - 2 ≤ a ∨ (lf ≤ nI a ∧ nI a < lf + lc)))) (by rw [decide_eq_false (show ¬ ((N - 2 ≤ a ∨ (lf ≤ nI a ∧ nI a < lf + lc))) by first | assumption | omega | exact fun z => g8 z.1 | exact fun z => g8 z.2 | exact fun z => z.elim (fun z => by omega) (fun z => g8 z.1) | exact fun z => z.elim (fun z => by omega) (fun z => g8 z.2) | exact fun z => h8 z.1 | exact fun z => h8 z.2 | exact fun z => z.elim (fun z => by omega) (fun z => h8 z.1) | exact fun z => z.elim (fun z => by omega) (fun z => h8 z.2) | exact fun z => g18 z.1 | exact fun z => g18 z.2 | exact fun z => z.elim (fun z => by omega) (fun z => g18 z.1) | exact fun z => z.elim (fun z => by omega) (fun z => g18 z.2) | exact fun z => g26 z.1 | exact fun z => g26 z.2 | exact fun z => z.elim (fun z => by omega) (fun z => g26 z.1) | exact fun z => z.elim (fun z => by omega) (fun z => g26 z.2) | exact fun z => h26 z.1 | exact fun z => h26 z.2 | exact fun z => z.elim (fun z => by omega) (fun z => h26 z.1) | exact fun z => z.elim (fun z => by omega) (fun z => h26 z.2) | exact fun z => g39 z.1 | exact fun z => g39 z.2 | exact fun z => z.elim (fun z => by omega) (fun z => g39 z.1) | exact fun z => z.elim (fun z => by omega) (fun z => g39 z.2) | exact fun z => h39 z.1 | exact fun z => h39 z.2 | exact fun z => z.elim (fun z => by omega) (fun z => h39 z.1) | exact fun z => z.elim (fun z => by omega) (fun z => h39 z.2) | (simp [bi, g8, h8, g18, g26, h26, g39, h39]; done))]; rfl) ?_
          exact W.zret (v := bi (decide (N - 2 ≤ a ∨ (lf ≤ nI a ∧ nI a < lf + lc)))) (ty := .boolean) hx hb hr (bi_n _) (fun t ht hW => ⟨rfl, ht⟩) (fun _ h => by cases h) d_L_bears_47
        · have h39 := Int32.not_le.mp g39
          refine lv_iconst (v := 1) hx hb d_L_bears_42 (by decide) ?_
          refine lv_goto hx hb d_L_bears_43 rfl ?_
          refine k_top (bi (decide (N - 2 ≤ a ∨ (lf ≤ nI a ∧ nI a < lf + lc)))) (by rw [decide_eq_true (show (N - 2 ≤ a ∨ (lf ≤ nI a ∧ nI a < lf + lc)) by first | assumption | omega | exact ⟨by assumption, by assumption⟩ | exact ⟨⟨by assumption, by assumption⟩, by assumption⟩ | exact Or.inl (by first | assumption | omega) | exact Or.inr ⟨by assumption, by assumption⟩ | (simp [bi, g8, h8, g18, g26, h26, g39, h39]; done))]; rfl) ?_
          exact W.zret (v := bi (decide (N - 2 ≤ a ∨ (lf ≤ nI a ∧ nI a < lf + lc)))) (ty := .boolean) hx hb hr (bi_n _) (fun t ht hW => ⟨rfl, ht⟩) (fun _ h => by cases h) d_L_bears_47
  · have h8 : ¬ a < (N - 2) := fun z => g8 ((nI_ltI (a := a) (b := N - 2) (by omega) (by omega)).mpr z)
    refine lv_iconst (v := 1) hx hb d_L_bears_11 (by decide) ?_
    refine lv_goto hx hb d_L_bears_12 rfl ?_
    refine lv_istore_n (lv' := [(2, .int 1), (0, .ref hg), (1, .int (nI a))]) hx hb d_L_bears_16 rfl hl (by decide) rfl (fun ls hl => ?_)
    refine lv_iload_n hx hb d_L_bears_17 rfl (lv_at hl 0 rfl) ?_
    refine lv_if_ne (tgt := 42) hx hb d_L_bears_18 rfl (fun g18 => ?_) (fun g18 => ?_)
    · refine lv_iconst (v := 1) hx hb d_L_bears_42 (by decide) ?_
      refine lv_goto hx hb d_L_bears_43 rfl ?_
      refine k_top (bi (decide (N - 2 ≤ a ∨ (lf ≤ nI a ∧ nI a < lf + lc)))) (by rw [decide_eq_true (show (N - 2 ≤ a ∨ (lf ≤ nI a ∧ nI a < lf + lc)) by first | assumption | omega | exact ⟨by assumption, by assumption⟩ | exact ⟨⟨by assumption, by assumption⟩, by assumption⟩ | exact Or.inl (by first | assumption | omega) | exact Or.inr ⟨by assumption, by assumption⟩ | (simp [bi, g8, h8, g18]; done))]; rfl) ?_
      exact W.zret (v := bi (decide (N - 2 ≤ a ∨ (lf ≤ nI a ∧ nI a < lf + lc)))) (ty := .boolean) hx hb hr (bi_n _) (fun t ht hW => ⟨rfl, ht⟩) (fun _ h => by cases h) d_L_bears_47
    · exact absurd g18 (by decide)
set_option maxHeartbeats 4000000 in
set_option maxRecDepth 100000 in
theorem c_Log_seal (l : Launch) (D : va_G) (cA : ClassId) (hg hx1 N : Nat) (ls1 lf lc : Int32) (X : Fn) (hs hv : Nat) (V : Fn) (gN4 : 4 ≤ N) (gN : N ≤ 10) (s0 f0 n0 : Int32) : Met l y_L_seal w_L_seal ({ frames := 1, cells := 0, slots := 0, locals := 21 }) (va_Pc [.ref hg, .int s0, .int f0, .int n0, .ref hs] (k_Wc D [(cA, .int)] (wLS cA hg hx1 N ls1 lf lc X hs hv V))) (va_Qv (fun (_ : Unit) => True) (fun _ t => va_P D vwCl (wLS cA hg hx1 N s0 f0 n0 (cpy N V X N) hs hv V) t.heap) (k_A (wLS cA hg hx1 N ls1 lf lc X hs hv V))) 0 0 (k_A (wLS cA hg hx1 N ls1 lf lc X hs hv V)) := by
  refine Met.ofW (cc := b_L_seal) (maxL := 6) (ret := none) (by decide) rfl ?_
  intro p e s m args below meth c s₁ B hml hv
  obtain ⟨rfl, hP, hK, hD0⟩ := hv
  have hx := B.exec
  have hb := B.bytes
  have hr := B.returns
  have hts0 := atoms_spec (ws := w_L_seal) B.pre
  have hts : ∀ w ∈ lw_g, w.before _ s = true := fun w h => hts0 w (List.mem_cons_of_mem _ h)
  have hown : s.vm.findClass R_L = some m.cls := findClass_of_methodNamed B.named
  have hlocks := B.notSynchronized
  have hD := k_Dself hD0
  have hS : va_S (k_A (wLS cA hg hx1 N ls1 lf lc X hs hv V)) s.heap s.heap [] := va_S.rf
  have hl := lv_entry ([.ref hg, .int s0, .int f0, .int n0, .ref hs]) (n := 6) (Nat.le_of_ble_eq_true rfl)
  rw [lg_entry_eq]
  generalize (lg_sl ([.ref hg, .int s0, .int f0, .int n0, .ref hs]) ++ List.replicate (6 - (lg_sl ([.ref hg, .int s0, .int f0, .int n0, .ref hs])).length) Slot.unset).toArray = ls at hl ⊢
  have hl : lv_has ls 6 [(0, .ref hg), (1, .int s0), (2, .int f0), (3, .int n0), (4, .ref hs)] := hl
  refine lv_aload_n hx hb d_L_seal_0 rfl (lv_at hl 0 rfl) ?_
  refine lv_iload_n hx hb d_L_seal_1 rfl (lv_at hl 1 rfl) ?_
  refine va_put (D := D) (ci := 1) (v := .int s0) (ty := .int) (C := R_L) (T := T_L) (N := 4) hx hb hts (in_L) ty_L tyok_L nm_L hown hK hP hD hS 0 rfl rfl 1 (by decide) (hts _ m_f_L_15) (fun _ h9 => h9) rfl (by decide +kernel) rfl rfl (Nat.le_of_ble_eq_true rfl) d_L_seal_2 (fun H locs hP hD hS => ?_)
  have hP : va_P D vwCl (wLS cA hg hx1 N s0 lf lc X hs hv V) H := hP
  have hD : va_D (k_A (wLS cA hg hx1 N ls1 lf lc X hs hv V)) (wLS cA hg hx1 N s0 lf lc X hs hv V) := hD
  refine lv_aload_n hx hb d_L_seal_5 rfl (lv_at hl 0 rfl) ?_
  refine lv_iload_n hx hb d_L_seal_6 rfl (lv_at hl 2 rfl) ?_
  refine va_put (D := D) (ci := 1) (v := .int f0) (ty := .int) (C := R_L) (T := T_L) (N := 4) hx hb hts (in_L) ty_L tyok_L nm_L hown hK hP hD hS 0 rfl rfl 2 (by decide) (hts _ m_f_L_19) (fun _ h9 => h9) rfl (by decide +kernel) rfl rfl (Nat.le_of_ble_eq_true rfl) d_L_seal_7 (fun H locs hP hD hS => ?_)
  have hP : va_P D vwCl (wLS cA hg hx1 N s0 f0 lc X hs hv V) H := hP
  have hD : va_D (k_A (wLS cA hg hx1 N ls1 lf lc X hs hv V)) (wLS cA hg hx1 N s0 f0 lc X hs hv V) := hD
  refine lv_aload_n hx hb d_L_seal_10 rfl (lv_at hl 0 rfl) ?_
  refine lv_iload_n hx hb d_L_seal_11 rfl (lv_at hl 3 rfl) ?_
  refine va_put (D := D) (ci := 1) (v := .int n0) (ty := .int) (C := R_L) (T := T_L) (N := 4) hx hb hts (in_L) ty_L tyok_L nm_L hown hK hP hD hS 0 rfl rfl 3 (by decide) (hts _ m_f_L_22) (fun _ h9 => h9) rfl (by decide +kernel) rfl rfl (Nat.le_of_ble_eq_true rfl) d_L_seal_12 (fun H locs hP hD hS => ?_)
  have hP : va_P D vwCl (wLS cA hg hx1 N s0 f0 n0 X hs hv V) H := hP
  have hD : va_D (k_A (wLS cA hg hx1 N ls1 lf lc X hs hv V)) (wLS cA hg hx1 N s0 f0 n0 X hs hv V) := hD
  refine lv_iconst (v := 0) hx hb d_L_seal_15 (by decide) ?_
  refine lv_istore (lv' := [(5, .int 0), (0, .ref hg), (1, .int s0), (2, .int f0), (3, .int n0), (4, .ref hs)]) hx hb d_L_seal_16 hl (by decide) rfl (fun ls hl => ?_)
  have L18 : ∀ (k : Nat) (i : Nat) (ls : Array Slot) (H : Heap) (locs : List Loc), i + k = N → lv_has ls 6 [(0, .ref hg), (1, .int s0), (2, .int f0), (3, .int n0), (4, .ref hs), (5, .int (nI i))] → va_P D vwCl (wLS cA hg hx1 N s0 f0 n0 (cpy N V X i) hs hv V) H → va_S (k_A (wLS cA hg hx1 N ls1 lf lc X hs hv V)) s.heap H locs → W p l e (headSpec w_L_seal ({ frames := 1, cells := 0, slots := 0, locals := 21 })).room s m ([.ref hg, .int s0, .int f0, .int n0, .ref hs] : List Value).toArray below meth c H locs 0 0 (MQ below (va_Qv (fun (_ : Unit) => True) (fun _ t => va_P D vwCl (wLS cA hg hx1 N s0 f0 n0 (cpy N V X N) hs hv V) t.heap) (k_A (wLS cA hg hx1 N ls1 lf lc X hs hv V))) ([.ref hg, .int s0, .int f0, .int n0, .ref hs] : List Value).toArray s 0 0 (k_A (wLS cA hg hx1 N ls1 lf lc X hs hv V))) (F0 m 18 ls []) := by
    intro k
    induction k with
    | zero =>
      intro i ls H locs hk hl hP hS
      have hD := k_D (ws' := wLS cA hg hx1 N s0 f0 n0 (cpy N V X i) hs hv V) hD rfl
      obtain rfl : N = i := by omega
      refine lv_iload hx hb d_L_seal_18 (lv_at hl 5 rfl) ?_
      refine lv_aload_n hx hb d_L_seal_20 rfl (lv_at hl 0 rfl) ?_
      refine va_get (D := D) (ci := 1) (v := .ref hx1) (C := R_L) (T := T_L) (N := 4) hx hb hts (in_L) hown hK hP 0 rfl rfl 0 (by decide) (hts _ m_f_L_9) (fun _ h9 => h9) rfl d_L_seal_21 ?_
      refine va_alen (v := nI N) hx hb hK hP 1 0 rfl rfl rfl d_L_seal_24 ?_
      refine lv_icmp_ge (tgt := 48) hx hb d_L_seal_25 rfl (fun g25 => ?_) (fun g25 => ?_)
      · have h25 : N ≤ N := (nI_leI (a := N) (b := N) (by omega) (by omega)).mp g25
        exact W.vret hx hb hr (fun t ht hW => ⟨⟨(), rfl, trivial, by show va_P D vwCl (wLS cA hg hx1 N s0 f0 n0 (cpy N V X N) hs hv V) t.heap; rw [ht]; exact hP⟩, hS.F ht⟩) hS.2.2 d_L_seal_48
      · have h25 : ¬ N ≤ N := fun z => g25 ((nI_leI (a := N) (b := N) (by omega) (by omega)).mpr z)
        exfalso; omega
    | succ k ih =>
      intro i ls H locs hk hl hP hS
      have hD := k_D (ws' := wLS cA hg hx1 N s0 f0 n0 (cpy N V X i) hs hv V) hD rfl
      refine lv_iload hx hb d_L_seal_18 (lv_at hl 5 rfl) ?_
      refine lv_aload_n hx hb d_L_seal_20 rfl (lv_at hl 0 rfl) ?_
      refine va_get (D := D) (ci := 1) (v := .ref hx1) (C := R_L) (T := T_L) (N := 4) hx hb hts (in_L) hown hK hP 0 rfl rfl 0 (by decide) (hts _ m_f_L_9) (fun _ h9 => h9) rfl d_L_seal_21 ?_
      refine va_alen (v := nI N) hx hb hK hP 1 0 rfl rfl rfl d_L_seal_24 ?_
      refine lv_icmp_ge (tgt := 48) hx hb d_L_seal_25 rfl (fun g25 => ?_) (fun g25 => ?_)
      · have h25 : N ≤ i := (nI_leI (a := N) (b := i) (by omega) (by omega)).mp g25
        exfalso; omega
      · have h25 : ¬ N ≤ i := fun z => g25 ((nI_leI (a := N) (b := i) (by omega) (by omega)).mpr z)
        refine lv_aload_n hx hb d_L_seal_28 rfl (lv_at hl 0 rfl) ?_
        refine va_get (D := D) (ci := 1) (v := .ref hx1) (C := R_L) (T := T_L) (N := 4) hx hb hts (in_L) hown hK hP 0 rfl rfl 0 (by decide) (hts _ m_f_L_9) (fun _ h9 => h9) rfl d_L_seal_29 ?_
        refine lv_iload hx hb d_L_seal_32 (lv_at hl 5 rfl) ?_
        refine lv_aload hx hb d_L_seal_34 (lv_at hl 4 rfl) ?_
        refine lv_iload hx hb d_L_seal_36 (lv_at hl 5 rfl) ?_
        refine k_roi (va_runV (C := R_S) (As := [.int (nI i)]) (rest := [.int (nI i), .ref hx1]) ⟨hx, hb, hml, hown, hts⟩ (c_Stripe_valueOf l D cA hs hv N V (by omega) (by omega) i (by omega)) (k_cwV 1 hts m_code_S_valueOf m_ini_S m_l_L_25 m_inst_S_valueOf m_sel_S_valueOf h_S_valueOf rfl rfl ⟨Nat.le_of_ble_eq_true rfl, Nat.le_of_ble_eq_true rfl⟩) (k_pR hP hK [2, 3] rfl 2 2 rfl rfl) rfl rfl hl.1 rfl (lv_room (Nat.le_of_ble_eq_true rfl)) d_L_seal_38 ⟨Nat.zero_le _, Nat.zero_le _⟩) ?_
        refine va_iast (n := N) (f := cpy N V X i) hx hb hK hP hD hS 1 0 rfl rfl (vp_in_nI (by omega) (by omega)) d_L_seal_41 (fun H locs hP hD hS => ?_)
        rw [show (nI i : Int32).toNatClampNeg = i from nI_clamp (n := i) (by omega)] at hP hD
        have hP : va_P D vwCl (wLS cA hg hx1 N s0 f0 n0 (upd (cpy N V X i) i (V i)) hs hv V) H := hP
        have hD : va_D (k_A (wLS cA hg hx1 N ls1 lf lc X hs hv V)) (wLS cA hg hx1 N s0 f0 n0 (upd (cpy N V X i) i (V i)) hs hv V) := hD
        refine lv_iinc (k := 5) (v := nI (i + 1)) (lv' := [(5, .int (nI (i + 1))), (0, .ref hg), (1, .int s0), (2, .int f0), (3, .int n0), (4, .ref hs)]) hx hb d_L_seal_42 hl rfl (nI_add i 1) (by decide) rfl (fun ls hl => ?_)
        refine lv_goto hx hb d_L_seal_45 rfl ?_
        have e1 : cpy N V X (i + 1) = upd (cpy N V X i) i (V i) := by first | rfl | (simp [cpy, g25, h25]; done) | omega
        exact ih (i + 1) ls H locs (by omega) (lv_sub hl [1, 2, 3, 4, 5, 0] rfl) (by rw [e1]; exact hP) hS
  have e2 : nI 0 = 0 := by first | rfl | (simp [cpy]; done) | omega
  have e3 : cpy N V X 0 = X := by first | rfl | (simp [cpy]; done) | omega
  exact L18 N 0 ls H locs (by omega) (by rw [e2]; exact lv_sub hl [1, 2, 3, 4, 5, 0] rfl) (by rw [e3]; exact hP) hS
