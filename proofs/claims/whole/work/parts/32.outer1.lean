set_option maxHeartbeats 4000000 in
set_option maxRecDepth 100000 in
theorem c_DualParityArray_within (l : Launch) (D : va_G) (x lo hi : Int32) : Met l y_A_within w_A_within ({ frames := 1, cells := 0, slots := 0, locals := 22 }) (va_Pc [.int x, .int lo, .int hi] (fun _ => True)) (k_Ro (some (.int (wth x lo hi)))) 0 0 (fun _ => False) := by
  refine Met.ofW (cc := b_A_within) (maxL := 3) (ret := (some .int)) (by decide) rfl ?_
  intro p e s m args below meth c s₁ B hml hv
  obtain ⟨rfl, hTb⟩ := hv
  have hx := B.exec
  have hb := B.bytes
  have hr := B.returns
  have hts0 := atoms_spec (ws := w_A_within) B.pre
  have hts : ∀ w ∈ lw_g, w.before _ s = true := fun w h => hts0 w (List.mem_cons_of_mem _ h)
  have hown : s.vm.findClass R_A = some m.cls := findClass_of_methodNamed B.named
  have hlocks := B.notSynchronized
  have hl := lv_entry ([.int x, .int lo, .int hi]) (n := 3) (Nat.le_of_ble_eq_true rfl)
  rw [lg_entry_eq]
  generalize (lg_sl ([.int x, .int lo, .int hi]) ++ List.replicate (3 - (lg_sl ([.int x, .int lo, .int hi])).length) Slot.unset).toArray = ls at hl ⊢
  have hl : lv_has ls 3 [(0, .int x), (1, .int lo), (2, .int hi)] := hl
  refine lv_iload_n hx hb d_A_within_0 rfl (lv_at hl 1 rfl) ?_
  refine lv_iload_n hx hb d_A_within_1 rfl (lv_at hl 2 rfl) ?_
  refine lv_iload_n hx hb d_A_within_2 rfl (lv_at hl 0 rfl) ?_
  refine va_mmin hx hb (by rw [hml]; exact hl.1.symm) hown (hts _ m_l_A_100) (hts _ m_stat_min) (hts _ m_ini_Math) (hts _ m_code_min) (Nat.le_of_ble_eq_true rfl) (Nat.le_of_ble_eq_true rfl) (Nat.zero_le _) (Nat.zero_le _) d_A_within_3 ?_
  refine va_mmax hx hb (by rw [hml]; exact hl.1.symm) hown (hts _ m_l_A_95) (hts _ m_stat_max) (hts _ m_ini_Math) (hts _ m_code_max) (Nat.le_of_ble_eq_true rfl) (Nat.le_of_ble_eq_true rfl) (Nat.zero_le _) (Nat.zero_le _) d_A_within_6 ?_
  refine k_top (wth x lo hi) (by first | rfl | (simp []; done) | omega) ?_
  exact W.iret (v := wth x lo hi) hx hb hr (fun t ht hW => ⟨rfl, ht⟩) (fun _ h => by cases h) d_A_within_9
set_option maxHeartbeats 4000000 in
set_option maxRecDepth 100000 in
theorem c_DualParityArray_unsigned (l : Launch) (D : va_G) (w : Int32) : Met l y_A_unsigned w_A_unsigned ({ frames := 0, cells := 0, slots := 0, locals := 0 }) (va_Pc [.int w] (fun _ => True)) (k_Ro (some (.long (un64 w)))) 0 0 (fun _ => False) := by
  refine Met.ofW (cc := b_A_unsigned) (maxL := 1) (ret := (some .long)) (by decide) rfl ?_
  intro p e s m args below meth c s₁ B hml hv
  obtain ⟨rfl, hTb⟩ := hv
  have hx := B.exec
  have hb := B.bytes
  have hr := B.returns
  have hts0 := atoms_spec (ws := w_A_unsigned) B.pre
  have hts : ∀ w ∈ lw_g, w.before _ s = true := fun w h => hts0 w (List.mem_cons_of_mem _ h)
  have hown : s.vm.findClass R_A = some m.cls := findClass_of_methodNamed B.named
  have hlocks := B.notSynchronized
  have hl := lv_entry ([.int w]) (n := 1) (Nat.le_of_ble_eq_true rfl)
  rw [lg_entry_eq]
  generalize (lg_sl ([.int w]) ++ List.replicate (1 - (lg_sl ([.int w])).length) Slot.unset).toArray = ls at hl ⊢
  have hl : lv_has ls 1 [(0, .int w)] := hl
  refine lv_iload_n hx hb d_A_unsigned_0 rfl (lv_at hl 0 rfl) ?_
  refine lv_i2l (v := (w).toInt64) hx hb d_A_unsigned_1 rfl ?_
  refine lv_ldc2 (v := 4294967295) hx hb hown (hts _ m_c_A_187) d_A_unsigned_2 ?_
  refine lv_land hx hb d_A_unsigned_5 ?_
  refine k_topl (un64 w) (by first | rfl | (simp []; done) | omega) ?_
  exact W.lret (v := un64 w) hx hb hr (fun t ht hW => ⟨rfl, ht⟩) (fun _ h => by cases h) d_A_unsigned_6
set_option maxHeartbeats 4000000 in
set_option maxRecDepth 100000 in
theorem c_DualParityArray_blockCount (l : Launch) (D : va_G) (cA : ClassId) (q : Nat → Nat) (N S : Nat) (z : CS) (gN4 : 4 ≤ N) (gN : N ≤ 10) (gS1 : 1 ≤ S) (gS : S ≤ 16) : Met l y_A_blockCount w_A_blockCount ({ frames := 0, cells := 0, slots := 0, locals := 0 }) (va_Pc [.ref (q 0)] (k_R D [(cA, .int)] (wC cA q N S z))) (k_Ro (some (.int (nI (S * (N - 2)))))) 0 0 (fun _ => False) := by
  refine Met.ofW (cc := b_A_blockCount) (maxL := 1) (ret := (some .int)) (by decide) rfl ?_
  intro p e s m args below meth c s₁ B hml hv
  obtain ⟨rfl, hP, hK⟩ := hv
  have hx := B.exec
  have hb := B.bytes
  have hr := B.returns
  have hts0 := atoms_spec (ws := w_A_blockCount) B.pre
  have hts : ∀ w ∈ lw_g, w.before _ s = true := fun w h => hts0 w (List.mem_cons_of_mem _ h)
  have hown : s.vm.findClass R_A = some m.cls := findClass_of_methodNamed B.named
  have hlocks := B.notSynchronized
  have hl := lv_entry ([.ref (q 0)]) (n := 1) (Nat.le_of_ble_eq_true rfl)
  rw [lg_entry_eq]
  generalize (lg_sl ([.ref (q 0)]) ++ List.replicate (1 - (lg_sl ([.ref (q 0)])).length) Slot.unset).toArray = ls at hl ⊢
  have hl : lv_has ls 1 [(0, .ref (q 0))] := hl
  refine lv_aload_n hx hb d_A_blockCount_0 rfl (lv_at hl 0 rfl) ?_
  refine va_get (D := D) (ci := 3) (v := .int (nI S)) (C := R_A) (T := T_A) (N := 11) hx hb hts (in_A) hown hK hP 0 rfl rfl 0 (by decide) (hts _ m_f_A_13) (fun _ h9 => h9) rfl d_A_blockCount_1 ?_
  refine lv_aload_n hx hb d_A_blockCount_4 rfl (lv_at hl 0 rfl) ?_
  refine va_get (D := D) (ci := 3) (v := .int (nI (N - 2))) (C := R_A) (T := T_A) (N := 11) hx hb hts (in_A) hown hK hP 0 rfl rfl 1 (by decide) (hts _ m_f_A_17) (fun _ h9 => h9) rfl d_A_blockCount_5 ?_
  refine lv_imul hx hb d_A_blockCount_8 ?_
  refine k_top (nI (S * (N - 2))) (pk_mul S (N - 2)) ?_
  exact W.iret (v := nI (S * (N - 2))) hx hb hr (fun t ht hW => ⟨rfl, ht⟩) (fun _ h => by cases h) d_A_blockCount_9
set_option maxHeartbeats 4000000 in
set_option maxRecDepth 100000 in
theorem c_DualParityArray_hasBlock (l : Launch) (D : va_G) (cA : ClassId) (q : Nat → Nat) (N S : Nat) (z : CS) (gN4 : 4 ≤ N) (gN : N ≤ 10) (gS1 : 1 ≤ S) (gS : S ≤ 16) (x : Int32) : Met l y_A_hasBlock w_A_hasBlock ({ frames := 1, cells := 0, slots := 0, locals := 20 }) (va_Pc [.ref (q 0), .int x] (k_R D [(cA, .int)] (wC cA q N S z))) (k_Ro (some (.int (bi (decide (¬ x < 0 ∧ ¬ nI (S * (N - 2)) ≤ x)))))) 0 0 (fun _ => False) := by
  refine Met.ofW (cc := b_A_hasBlock) (maxL := 2) (ret := (some .boolean)) (by decide) rfl ?_
  intro p e s m args below meth c s₁ B hml hv
  obtain ⟨rfl, hP, hK⟩ := hv
  have hx := B.exec
  have hb := B.bytes
  have hr := B.returns
  have hts0 := atoms_spec (ws := w_A_hasBlock) B.pre
  have hts : ∀ w ∈ lw_g, w.before _ s = true := fun w h => hts0 w (List.mem_cons_of_mem _ h)
  have hown : s.vm.findClass R_A = some m.cls := findClass_of_methodNamed B.named
  have hlocks := B.notSynchronized
  have hl := lv_entry ([.ref (q 0), .int x]) (n := 2) (Nat.le_of_ble_eq_true rfl)
  rw [lg_entry_eq]
  generalize (lg_sl ([.ref (q 0), .int x]) ++ List.replicate (2 - (lg_sl ([.ref (q 0), .int x])).length) Slot.unset).toArray = ls at hl ⊢
  have hl : lv_has ls 2 [(0, .ref (q 0)), (1, .int x)] := hl
  refine lv_iload_n hx hb d_A_hasBlock_0 rfl (lv_at hl 1 rfl) ?_
  refine lv_if_lt (tgt := 16) hx hb d_A_hasBlock_1 rfl (fun g1 => ?_) (fun g1 => ?_)
  · have h1 := Int32.not_le.mpr g1
    refine lv_iconst (v := 0) hx hb d_A_hasBlock_16 (by decide) ?_
    refine k_top (bi (decide (¬ x < 0 ∧ ¬ nI (S * (N - 2)) ≤ x))) (by rw [decide_eq_false (show ¬ ((¬ x < 0 ∧ ¬ nI (S * (N - 2)) ≤ x)) by first | assumption | omega | exact fun z => g1 z.1 | exact fun z => g1 z.2 | exact fun z => z.elim (fun z => by omega) (fun z => g1 z.1) | exact fun z => z.elim (fun z => by omega) (fun z => g1 z.2) | exact fun z => h1 z.1 | exact fun z => h1 z.2 | exact fun z => z.elim (fun z => by omega) (fun z => h1 z.1) | exact fun z => z.elim (fun z => by omega) (fun z => h1 z.2) | (simp [bi, g1, h1]; done))]; rfl) ?_
    exact W.zret (v := bi (decide (¬ x < 0 ∧ ¬ nI (S * (N - 2)) ≤ x))) (ty := .boolean) hx hb hr (bi_n _) (fun t ht hW => ⟨rfl, ht⟩) (fun _ h => by cases h) d_A_hasBlock_17
  · have h1 := Int32.not_lt.mp g1
    refine lv_iload_n hx hb d_A_hasBlock_4 rfl (lv_at hl 1 rfl) ?_
    refine lv_aload_n hx hb d_A_hasBlock_5 rfl (lv_at hl 0 rfl) ?_
    refine k_roi (va_runV (C := R_A) (As := []) (rest := [.int x]) ⟨hx, hb, hml, hown, hts⟩ (c_DualParityArray_blockCount l D cA q N S z (by omega) (by omega) (by omega) (by omega)) (k_cwV 0 hts m_code_A_blockCount m_ini_A m_l_A_89 m_inst_A_blockCount m_sel_A_blockCount h_A_blockCount rfl rfl ⟨Nat.le_of_ble_eq_true rfl, Nat.le_of_ble_eq_true rfl⟩) (k_pR hP hK [0, 1, 2, 3, 4, 5, 6, 7] rfl 0 3 rfl rfl) rfl rfl hl.1 rfl (lv_room (Nat.le_of_ble_eq_true rfl)) d_A_hasBlock_6 ⟨Nat.zero_le _, Nat.zero_le _⟩) ?_
    refine lv_icmp_ge (tgt := 16) hx hb d_A_hasBlock_9 rfl (fun g9 => ?_) (fun g9 => ?_)
    · have h9 := Int32.not_lt.mpr g9
      refine lv_iconst (v := 0) hx hb d_A_hasBlock_16 (by decide) ?_
      refine k_top (bi (decide (¬ x < 0 ∧ ¬ nI (S * (N - 2)) ≤ x))) (by rw [decide_eq_false (show ¬ ((¬ x < 0 ∧ ¬ nI (S * (N - 2)) ≤ x)) by first | assumption | omega | exact fun z => g1 z.1 | exact fun z => g1 z.2 | exact fun z => z.elim (fun z => by omega) (fun z => g1 z.1) | exact fun z => z.elim (fun z => by omega) (fun z => g1 z.2) | exact fun z => h1 z.1 | exact fun z => h1 z.2 | exact fun z => z.elim (fun z => by omega) (fun z => h1 z.1) | exact fun z => z.elim (fun z => by omega) (fun z => h1 z.2) | exact fun z => g9 z.1 | exact fun z => g9 z.2 | exact fun z => z.elim (fun z => by omega) (fun z => g9 z.1) | exact fun z => z.elim (fun z => by omega) (fun z => g9 z.2) | exact fun z => h9 z.1 | exact fun z => h9 z.2 | exact fun z => z.elim (fun z => by omega) (fun z => h9 z.1) | exact fun z => z.elim (fun z => by omega) (fun z => h9 z.2) | (simp [bi, g1, h1, g9, h9]; done))]; rfl) ?_
      exact W.zret (v := bi (decide (¬ x < 0 ∧ ¬ nI (S * (N - 2)) ≤ x))) (ty := .boolean) hx hb hr (bi_n _) (fun t ht hW => ⟨rfl, ht⟩) (fun _ h => by cases h) d_A_hasBlock_17
    · have h9 := Int32.not_le.mp g9
      refine lv_iconst (v := 1) hx hb d_A_hasBlock_12 (by decide) ?_
      refine lv_goto hx hb d_A_hasBlock_13 rfl ?_
      refine k_top (bi (decide (¬ x < 0 ∧ ¬ nI (S * (N - 2)) ≤ x))) (by rw [decide_eq_true (show (¬ x < 0 ∧ ¬ nI (S * (N - 2)) ≤ x) by first | assumption | omega | exact ⟨by assumption, by assumption⟩ | exact ⟨⟨by assumption, by assumption⟩, by assumption⟩ | exact Or.inl (by first | assumption | omega) | exact Or.inr ⟨by assumption, by assumption⟩ | (simp [bi, g1, h1, g9, h9]; done))]; rfl) ?_
      exact W.zret (v := bi (decide (¬ x < 0 ∧ ¬ nI (S * (N - 2)) ≤ x))) (ty := .boolean) hx hb hr (bi_n _) (fun t ht hW => ⟨rfl, ht⟩) (fun _ h => by cases h) d_A_hasBlock_17
set_option maxHeartbeats 4000000 in
set_option maxRecDepth 100000 in
theorem c_DualParityArray_refusal (l : Launch) (D : va_G) (cA : ClassId) (q : Nat → Nat) (N S : Nat) (z : CS) (gN4 : 4 ≤ N) (gN : N ≤ 10) (gS1 : 1 ≤ S) (gS : S ≤ 16) : Met l y_A_refusal w_A_refusal ({ frames := 1, cells := 0, slots := 0, locals := 22 }) (va_Pc [.ref (q 0)] (k_R D [(cA, .int)] (wC cA q N S z))) (k_Ro (some (.int (cRef N S z)))) 0 0 (fun _ => False) := by
  refine Met.ofW (cc := b_A_refusal) (maxL := 1) (ret := (some .int)) (by decide) rfl ?_
  intro p e s m args below meth c s₁ B hml hv
  obtain ⟨rfl, hP, hK⟩ := hv
  have hx := B.exec
  have hb := B.bytes
  have hr := B.returns
  have hts0 := atoms_spec (ws := w_A_refusal) B.pre
  have hts : ∀ w ∈ lw_g, w.before _ s = true := fun w h => hts0 w (List.mem_cons_of_mem _ h)
  have hown : s.vm.findClass R_A = some m.cls := findClass_of_methodNamed B.named
  have hlocks := B.notSynchronized
  have hl := lv_entry ([.ref (q 0)]) (n := 1) (Nat.le_of_ble_eq_true rfl)
  rw [lg_entry_eq]
  generalize (lg_sl ([.ref (q 0)]) ++ List.replicate (1 - (lg_sl ([.ref (q 0)])).length) Slot.unset).toArray = ls at hl ⊢
  have hl : lv_has ls 1 [(0, .ref (q 0))] := hl
  refine lv_aload_n hx hb d_A_refusal_0 rfl (lv_at hl 0 rfl) ?_
  refine va_get (D := D) (ci := 3) (v := .int (cDn z)) (C := R_A) (T := T_A) (N := 11) hx hb hts (in_A) hown hK hP 0 rfl rfl 6 (by decide) (hts _ m_f_A_161) (fun _ h9 => h9) rfl d_A_refusal_1 ?_
  refine lv_if_eq (tgt := 10) hx hb d_A_refusal_4 rfl (fun g4 => ?_) (fun g4 => ?_)
  · refine lv_aload_n hx hb d_A_refusal_10 rfl (lv_at hl 0 rfl) ?_
    refine va_get (D := D) (ci := 3) (v := .ref (q 1)) (C := R_A) (T := T_A) (N := 11) hx hb hts (in_A) hown hK hP 0 rfl rfl 2 (by decide) (hts _ m_f_A_25) (fun _ h9 => h9) rfl d_A_refusal_11 ?_
    refine k_roi (va_runV (C := R_D) (As := []) (rest := []) ⟨hx, hb, hml, hown, hts⟩ (c_Disks_broken l D cA (q 1) (q 2) (q 3) N S (cW z) (cP z) (by omega) (by omega) (by omega) (by omega)) (k_cwV 0 hts m_code_D_broken m_ini_D m_l_A_168 m_inst_D_broken m_sel_D_broken h_D_broken rfl rfl ⟨Nat.le_of_ble_eq_true rfl, Nat.le_of_ble_eq_true rfl⟩) (k_pR hP hK [1, 2, 3] rfl 1 0 rfl rfl) rfl rfl hl.1 rfl (lv_room (Nat.le_of_ble_eq_true rfl)) d_A_refusal_14 ⟨Nat.zero_le _, Nat.zero_le _⟩) ?_
    refine lv_if_eq (tgt := 25) hx hb d_A_refusal_17 rfl (fun g17 => ?_) (fun g17 => ?_)
    · have h17 := of_decide_eq_false (bi_z.mp g17)
      refine lv_iconst (v := 0) hx hb d_A_refusal_25 (by decide) ?_
      refine k_top (cRef N S z) (by first | ((try unfold cRef); (repeat (first | rw [if_pos g4] | rw [if_neg g4] | rw [if_pos g17] | rw [if_neg g17] | rw [if_pos h17] | rw [if_neg h17] | rw [if_neg (show ¬ true = false by decide)] | rw [if_pos (show false = false from rfl)] | dsimp only)); first | done | rfl) | rfl | (simp [cRef, g4, g17, h17]; done)) ?_
      exact W.iret (v := cRef N S z) hx hb hr (fun t ht hW => ⟨rfl, ht⟩) (fun _ h => by cases h) d_A_refusal_26
    · have h17 := of_decide_eq_true (bi_nz.mp g17)
      refine lv_bipush (v := (-3)) hx hb d_A_refusal_20 (by decide) ?_
      refine lv_goto hx hb d_A_refusal_22 rfl ?_
      refine k_top (cRef N S z) (by first | ((try unfold cRef); (repeat (first | rw [if_pos g4] | rw [if_neg g4] | rw [if_pos g17] | rw [if_neg g17] | rw [if_pos h17] | rw [if_neg h17] | rw [if_neg (show ¬ true = false by decide)] | rw [if_pos (show false = false from rfl)] | dsimp only)); first | done | rfl) | rfl | (simp [cRef, g4, g17, h17]; done)) ?_
      exact W.iret (v := cRef N S z) hx hb hr (fun t ht hW => ⟨rfl, ht⟩) (fun _ h => by cases h) d_A_refusal_26
  · refine lv_bipush (v := (-2)) hx hb d_A_refusal_7 (by decide) ?_
    refine k_top (cRef N S z) (by first | ((try unfold cRef); (repeat (first | rw [if_pos g4] | rw [if_neg g4] | rw [if_neg (show ¬ true = false by decide)] | rw [if_pos (show false = false from rfl)] | dsimp only)); first | done | rfl) | rfl | (simp [cRef, g4]; done)) ?_
    exact W.iret (v := cRef N S z) hx hb hr (fun t ht hW => ⟨rfl, ht⟩) (fun _ h => by cases h) d_A_refusal_9
set_option maxHeartbeats 4000000 in
set_option maxRecDepth 100000 in
theorem c_DualParityArray_stop (l : Launch) (D : va_G) (cA : ClassId) (q : Nat → Nat) (N S : Nat) (z : CS) (gN4 : 4 ≤ N) (gN : N ≤ 10) (gS1 : 1 ≤ S) (gS : S ≤ 16) : Met l y_A_stop w_A_stop ({ frames := 0, cells := 0, slots := 0, locals := 0 }) (va_Pc [.ref (q 0)] (k_Wc D [(cA, .int)] (wC cA q N S z))) (va_Qv (fun (_ : Unit) => True) (fun _ t => va_P D vwCl (wC cA q N S (cStop z)) t.heap) (k_A (wC cA q N S z))) 0 0 (k_A (wC cA q N S z)) := by
  refine Met.ofW (cc := b_A_stop) (maxL := 1) (ret := none) (by decide) rfl ?_
  intro p e s m args below meth c s₁ B hml hv
  obtain ⟨rfl, hP, hK, hD0⟩ := hv
  have hx := B.exec
  have hb := B.bytes
  have hr := B.returns
  have hts0 := atoms_spec (ws := w_A_stop) B.pre
  have hts : ∀ w ∈ lw_g, w.before _ s = true := fun w h => hts0 w (List.mem_cons_of_mem _ h)
  have hown : s.vm.findClass R_A = some m.cls := findClass_of_methodNamed B.named
  have hlocks := B.notSynchronized
  have hD := k_Dself hD0
  have hS : va_S (k_A (wC cA q N S z)) s.heap s.heap [] := va_S.rf
  have hl := lv_entry ([.ref (q 0)]) (n := 1) (Nat.le_of_ble_eq_true rfl)
  rw [lg_entry_eq]
  generalize (lg_sl ([.ref (q 0)]) ++ List.replicate (1 - (lg_sl ([.ref (q 0)])).length) Slot.unset).toArray = ls at hl ⊢
  have hl : lv_has ls 1 [(0, .ref (q 0))] := hl
  refine lv_aload_n hx hb d_A_stop_0 rfl (lv_at hl 0 rfl) ?_
  refine lv_iconst (v := 1) hx hb d_A_stop_1 (by decide) ?_
  refine va_put (D := D) (ci := 3) (v := .int 1) (ty := .boolean) (C := R_A) (T := T_A) (N := 11) hx hb hts (in_A) ty_A tyok_A nm_A hown hK hP hD hS 0 rfl rfl 6 (by decide) (hts _ m_f_A_161) (fun _ h9 => h9) rfl (by decide +kernel) rfl rfl (Nat.le_of_ble_eq_true rfl) d_A_stop_2 (fun H locs hP hD hS => ?_)
  have hP : va_P D vwCl (wC cA q N S (sDn z 1)) H := hP
  have hD : va_D (k_A (wC cA q N S z)) (wC cA q N S (sDn z 1)) := hD
  refine lv_aload_n hx hb d_A_stop_5 rfl (lv_at hl 0 rfl) ?_
  refine lv_iconst (v := (-1)) hx hb d_A_stop_6 (by decide) ?_
  refine va_put (D := D) (ci := 3) (v := .int (-1)) (ty := .int) (C := R_A) (T := T_A) (N := 11) hx hb hts (in_A) ty_A tyok_A nm_A hown hK hP hD hS 0 rfl rfl 7 (by decide) (hts _ m_f_A_48) (fun _ h9 => h9) rfl (by decide +kernel) rfl rfl (Nat.le_of_ble_eq_true rfl) d_A_stop_7 (fun H locs hP hD hS => ?_)
  have hP : va_P D vwCl (wC cA q N S (sUn (sDn z 1) (-1))) H := hP
  have hD : va_D (k_A (wC cA q N S z)) (wC cA q N S (sUn (sDn z 1) (-1))) := hD
  have e1 : cStop z = sUn (sDn z 1) (-1) := by first | rfl | (simp [cStop]; done) | omega
  exact W.vret hx hb hr (fun t ht hW => ⟨⟨(), rfl, trivial, by show va_P D vwCl (wC cA q N S (cStop z)) t.heap; rw [ht, e1]; exact hP⟩, hS.F ht⟩) hS.2.2 d_A_stop_10
set_option maxHeartbeats 4000000 in
set_option maxRecDepth 100000 in
theorem c_DualParityArray_beginAct (l : Launch) (D : va_G) (cA : ClassId) (q : Nat → Nat) (N S : Nat) (z : CS) (gN4 : 4 ≤ N) (gN : N ≤ 10) (gS1 : 1 ≤ S) (gS : S ≤ 16) : Met l y_A_beginAct w_A_beginAct ({ frames := 1, cells := 0, slots := 0, locals := 20 }) (va_Pc [.ref (q 0)] (k_Wc D [(cA, .int)] (wC cA q N S z))) (va_Qi (fun (r : Int32) (_ : Unit) => r = bi ((cBeg z).1)) (fun _ t => va_P D vwCl (wC cA q N S ((cBeg z).2)) t.heap) (k_A (wC cA q N S z))) 0 0 (k_A (wC cA q N S z)) := by
  refine Met.ofW (cc := b_A_beginAct) (maxL := 1) (ret := (some .boolean)) (by decide) rfl ?_
  intro p e s m args below meth c s₁ B hml hv
  obtain ⟨rfl, hP, hK, hD0⟩ := hv
  have hx := B.exec
  have hb := B.bytes
  have hr := B.returns
  have hts0 := atoms_spec (ws := w_A_beginAct) B.pre
  have hts : ∀ w ∈ lw_g, w.before _ s = true := fun w h => hts0 w (List.mem_cons_of_mem _ h)
  have hown : s.vm.findClass R_A = some m.cls := findClass_of_methodNamed B.named
  have hlocks := B.notSynchronized
  have hD := k_Dself hD0
  have hS : va_S (k_A (wC cA q N S z)) s.heap s.heap [] := va_S.rf
  have hl := lv_entry ([.ref (q 0)]) (n := 1) (Nat.le_of_ble_eq_true rfl)
  rw [lg_entry_eq]
  generalize (lg_sl ([.ref (q 0)]) ++ List.replicate (1 - (lg_sl ([.ref (q 0)])).length) Slot.unset).toArray = ls at hl ⊢
  have hl : lv_has ls 1 [(0, .ref (q 0))] := hl
  refine lv_aload_n hx hb d_A_beginAct_0 rfl (lv_at hl 0 rfl) ?_
  refine va_get (D := D) (ci := 3) (v := .int (cUn z)) (C := R_A) (T := T_A) (N := 11) hx hb hts (in_A) hown hK hP 0 rfl rfl 7 (by decide) (hts _ m_f_A_48) (fun _ h9 => h9) rfl d_A_beginAct_1 ?_
  refine lv_if_ne (tgt := 13) hx hb d_A_beginAct_4 rfl (fun g4 => ?_) (fun g4 => ?_)
  · refine lv_aload_n hx hb d_A_beginAct_13 rfl (lv_at hl 0 rfl) ?_
    refine va_get (D := D) (ci := 3) (v := .int (cUn z)) (C := R_A) (T := T_A) (N := 11) hx hb hts (in_A) hown hK hP 0 rfl rfl 7 (by decide) (hts _ m_f_A_48) (fun _ h9 => h9) rfl d_A_beginAct_14 ?_
    refine lv_iconst (v := (-1)) hx hb d_A_beginAct_17 (by decide) ?_
    refine lv_icmp_eq (tgt := 31) hx hb d_A_beginAct_18 rfl (fun g18 => ?_) (fun g18 => ?_)
    · refine lv_aload_n hx hb d_A_beginAct_31 rfl (lv_at hl 0 rfl) ?_
      refine lv_dup hx hb d_A_beginAct_32 rfl ?_
      refine va_get (D := D) (ci := 3) (v := .int (cMd z)) (C := R_A) (T := T_A) (N := 11) hx hb hts (in_A) hown hK hP 0 rfl rfl 8 (by decide) (hts _ m_f_A_92) (fun _ h9 => h9) rfl d_A_beginAct_33 ?_
      refine lv_iconst (v := 1) hx hb d_A_beginAct_36 (by decide) ?_
      refine lv_iadd hx hb d_A_beginAct_37 ?_
      refine va_put (D := D) (ci := 3) (v := .int ((cMd z) + 1)) (ty := .int) (C := R_A) (T := T_A) (N := 11) hx hb hts (in_A) ty_A tyok_A nm_A hown hK hP hD hS 0 rfl rfl 8 (by decide) (hts _ m_f_A_92) (fun _ h9 => h9) rfl (by decide +kernel) rfl rfl (Nat.le_of_ble_eq_true rfl) d_A_beginAct_38 (fun H locs hP hD hS => ?_)
      have hP : va_P D vwCl (wC cA q N S (sMd z ((cMd z) + 1))) H := hP
      have hD : va_D (k_A (wC cA q N S z)) (wC cA q N S (sMd z ((cMd z) + 1))) := hD
      refine lv_iconst (v := 1) hx hb d_A_beginAct_41 (by decide) ?_
      have e1 : (cBeg z).2 = sMd z ((cMd z) + 1) := by first | ((try unfold cBeg); (try unfold cInc); (repeat (first | rw [if_pos g4] | rw [if_neg g4] | rw [if_pos g18] | rw [if_neg g18] | rw [if_neg (show ¬ true = false by decide)] | rw [if_pos (show false = false from rfl)] | dsimp only)); first | done | rfl) | rfl | (simp [cBeg, cInc, bi, g4, g18]; done)
      exact W.zret (v := 1) (ty := .boolean) hx hb hr (rfl) (fun t ht hW => ⟨⟨_, (), rfl, by first | ((try unfold cBeg); (try unfold cInc); (repeat (first | rw [if_pos g4] | rw [if_neg g4] | rw [if_pos g18] | rw [if_neg g18] | rw [if_neg (show ¬ true = false by decide)] | rw [if_pos (show false = false from rfl)] | dsimp only)); first | done | rfl) | rfl | (simp [cBeg, cInc, bi, g4, g18]; done), by show va_P D vwCl (wC cA q N S ((cBeg z).2)) t.heap; rw [ht, e1]; exact hP⟩, hS.F ht⟩) hS.2.2 d_A_beginAct_42
    · refine lv_aload_n hx hb d_A_beginAct_21 rfl (lv_at hl 0 rfl) ?_
      refine lv_dup hx hb d_A_beginAct_22 rfl ?_
      refine va_get (D := D) (ci := 3) (v := .int (cUn z)) (C := R_A) (T := T_A) (N := 11) hx hb hts (in_A) hown hK hP 0 rfl rfl 7 (by decide) (hts _ m_f_A_48) (fun _ h9 => h9) rfl d_A_beginAct_23 ?_
      refine lv_iconst (v := 1) hx hb d_A_beginAct_26 (by decide) ?_
      refine lv_isub hx hb d_A_beginAct_27 ?_
      refine va_put (D := D) (ci := 3) (v := .int ((cUn z) - 1)) (ty := .int) (C := R_A) (T := T_A) (N := 11) hx hb hts (in_A) ty_A tyok_A nm_A hown hK hP hD hS 0 rfl rfl 7 (by decide) (hts _ m_f_A_48) (fun _ h9 => h9) rfl (by decide +kernel) rfl rfl (Nat.le_of_ble_eq_true rfl) d_A_beginAct_28 (fun H locs hP hD hS => ?_)
      have hP : va_P D vwCl (wC cA q N S (sUn z ((cUn z) - 1))) H := hP
      have hD : va_D (k_A (wC cA q N S z)) (wC cA q N S (sUn z ((cUn z) - 1))) := hD
      refine lv_aload_n hx hb d_A_beginAct_31 rfl (lv_at hl 0 rfl) ?_
      refine lv_dup hx hb d_A_beginAct_32 rfl ?_
      refine va_get (D := D) (ci := 3) (v := .int (cMd (sUn z ((cUn z) - 1)))) (C := R_A) (T := T_A) (N := 11) hx hb hts (in_A) hown hK hP 0 rfl rfl 8 (by decide) (hts _ m_f_A_92) (fun _ h9 => h9) rfl d_A_beginAct_33 ?_
      refine lv_iconst (v := 1) hx hb d_A_beginAct_36 (by decide) ?_
      refine lv_iadd hx hb d_A_beginAct_37 ?_
      refine va_put (D := D) (ci := 3) (v := .int ((cMd (sUn z ((cUn z) - 1))) + 1)) (ty := .int) (C := R_A) (T := T_A) (N := 11) hx hb hts (in_A) ty_A tyok_A nm_A hown hK hP hD hS 0 rfl rfl 8 (by decide) (hts _ m_f_A_92) (fun _ h9 => h9) rfl (by decide +kernel) rfl rfl (Nat.le_of_ble_eq_true rfl) d_A_beginAct_38 (fun H locs hP hD hS => ?_)
      have hP : va_P D vwCl (wC cA q N S (sMd (sUn z ((cUn z) - 1)) ((cMd (sUn z ((cUn z) - 1))) + 1))) H := hP
      have hD : va_D (k_A (wC cA q N S z)) (wC cA q N S (sMd (sUn z ((cUn z) - 1)) ((cMd (sUn z ((cUn z) - 1))) + 1))) := hD
      refine lv_iconst (v := 1) hx hb d_A_beginAct_41 (by decide) ?_
      have e2 : (cBeg z).2 = sMd (sUn z ((cUn z) - 1)) ((cMd (sUn z ((cUn z) - 1))) + 1) := by first | ((try unfold cBeg); (try unfold cInc); (repeat (first | rw [if_pos g4] | rw [if_neg g4] | rw [if_pos g18] | rw [if_neg g18] | rw [if_neg (show ¬ true = false by decide)] | rw [if_pos (show false = false from rfl)] | dsimp only)); first | done | rfl) | rfl | (simp [cBeg, cInc, bi, g4, g18]; done)
      exact W.zret (v := 1) (ty := .boolean) hx hb hr (rfl) (fun t ht hW => ⟨⟨_, (), rfl, by first | ((try unfold cBeg); (try unfold cInc); (repeat (first | rw [if_pos g4] | rw [if_neg g4] | rw [if_pos g18] | rw [if_neg g18] | rw [if_neg (show ¬ true = false by decide)] | rw [if_pos (show false = false from rfl)] | dsimp only)); first | done | rfl) | rfl | (simp [cBeg, cInc, bi, g4, g18]; done), by show va_P D vwCl (wC cA q N S ((cBeg z).2)) t.heap; rw [ht, e2]; exact hP⟩, hS.F ht⟩) hS.2.2 d_A_beginAct_42
  · refine lv_aload_n hx hb d_A_beginAct_7 rfl (lv_at hl 0 rfl) ?_
    refine k_wrv (va_runV (C := R_A) (As := []) (rest := []) ⟨hx, hb, hml, hown, hts⟩ (c_DualParityArray_stop l D cA q N S z (by omega) (by omega) (by omega) (by omega)) (k_cwV 0 hts m_code_A_stop m_ini_A m_l_A_165 m_inst_A_stop m_sel_A_stop h_A_stop rfl rfl ⟨Nat.le_of_ble_eq_true rfl, Nat.le_of_ble_eq_true rfl⟩) (k_pW hP hK hD [0, 1, 2, 3, 4, 5, 6, 7] (by decide) rfl 0 3 rfl rfl) rfl rfl hl.1 rfl (lv_room (Nat.le_of_ble_eq_true rfl)) d_A_beginAct_8 ⟨Nat.zero_le _, Nat.zero_le _⟩) hS hD [0, 1, 2, 3, 4, 5, 6, 7] rfl (fun u H1 locs _ hk hP1 hS => ?_)
    obtain ⟨u3, hu3⟩ : ∃ w, w = cStop z := ⟨_, rfl⟩
    have hP : va_P D vwCl (wC cA q N S u3) H1 := by rw [hu3]; exact hP1
    have hD : va_D (k_A (wC cA q N S z)) (wC cA q N S u3) := k_D hD rfl
    generalize H1 = H at hP hS ⊢
    refine lv_iconst (v := 0) hx hb d_A_beginAct_11 (by decide) ?_
    have e4 : (cBeg z).2 = u3 := by subst hu3; first | ((try unfold cBeg); (try unfold cInc); (repeat (first | rw [if_pos g4] | rw [if_neg g4] | rw [if_neg (show ¬ true = false by decide)] | rw [if_pos (show false = false from rfl)] | dsimp only)); first | done | rfl) | rfl | (simp [cBeg, cInc, bi, g4]; done)
    exact W.zret (v := 0) (ty := .boolean) hx hb hr (rfl) (fun t ht hW => ⟨⟨_, (), rfl, by subst hu3; first | ((try unfold cBeg); (try unfold cInc); (repeat (first | rw [if_pos g4] | rw [if_neg g4] | rw [if_neg (show ¬ true = false by decide)] | rw [if_pos (show false = false from rfl)] | dsimp only)); first | done | rfl) | rfl | (simp [cBeg, cInc, bi, g4]; done), by show va_P D vwCl (wC cA q N S ((cBeg z).2)) t.heap; rw [ht, e4]; exact hP⟩, hS.F ht⟩) hS.2.2 d_A_beginAct_12
set_option maxHeartbeats 4000000 in
set_option maxRecDepth 100000 in
theorem c_DualParityArray_writeCell (l : Launch) (D : va_G) (cA : ClassId) (q : Nat → Nat) (N S : Nat) (z : CS) (gN4 : 4 ≤ N) (gN : N ≤ 10) (gS1 : 1 ≤ S) (gS : S ≤ 16) (a b : Nat) (w : Int32) (ha : a < N) (hb1 : b < S) : Met l y_A_writeCell w_A_writeCell ({ frames := 2, cells := 0, slots := 0, locals := 40 }) (va_Pc [.ref (q 0), .int (nI a), .int (nI b), .int w] (k_Wc D [(cA, .int)] (wC cA q N S z))) (va_Qi (fun (r : Int32) (_ : Unit) => r = bi ((cWr S a b w z).1)) (fun _ t => va_P D vwCl (wC cA q N S ((cWr S a b w z).2)) t.heap) (k_A (wC cA q N S z))) 0 0 (k_A (wC cA q N S z)) := by
  refine Met.ofW (cc := b_A_writeCell) (maxL := 4) (ret := (some .boolean)) (by decide) rfl ?_
  intro p e s m args below meth c s₁ B hml hv
  obtain ⟨rfl, hP, hK, hD0⟩ := hv
  have hx := B.exec
  have hb := B.bytes
  have hr := B.returns
  have hts0 := atoms_spec (ws := w_A_writeCell) B.pre
  have hts : ∀ w ∈ lw_g, w.before _ s = true := fun w h => hts0 w (List.mem_cons_of_mem _ h)
  have hown : s.vm.findClass R_A = some m.cls := findClass_of_methodNamed B.named
  have hlocks := B.notSynchronized
  have hD := k_Dself hD0
  have hS : va_S (k_A (wC cA q N S z)) s.heap s.heap [] := va_S.rf
  have hl := lv_entry ([.ref (q 0), .int (nI a), .int (nI b), .int w]) (n := 4) (Nat.le_of_ble_eq_true rfl)
  rw [lg_entry_eq]
  generalize (lg_sl ([.ref (q 0), .int (nI a), .int (nI b), .int w]) ++ List.replicate (4 - (lg_sl ([.ref (q 0), .int (nI a), .int (nI b), .int w])).length) Slot.unset).toArray = ls at hl ⊢
  have hl : lv_has ls 4 [(0, .ref (q 0)), (1, .int (nI a)), (2, .int (nI b)), (3, .int w)] := hl
  refine lv_aload_n hx hb d_A_writeCell_0 rfl (lv_at hl 0 rfl) ?_
  refine k_wri (va_runV (C := R_A) (As := []) (rest := []) ⟨hx, hb, hml, hown, hts⟩ (c_DualParityArray_beginAct l D cA q N S z (by omega) (by omega) (by omega) (by omega)) (k_cwV 0 hts m_code_A_beginAct m_ini_A m_l_A_132 m_inst_A_beginAct m_sel_A_beginAct h_A_beginAct rfl rfl ⟨Nat.le_of_ble_eq_true rfl, Nat.le_of_ble_eq_true rfl⟩) (k_pW hP hK hD [0, 1, 2, 3, 4, 5, 6, 7] (by decide) rfl 0 3 rfl rfl) rfl rfl hl.1 rfl (lv_room (Nat.le_of_ble_eq_true rfl)) d_A_writeCell_1 ⟨Nat.zero_le _, Nat.zero_le _⟩) hS hD [0, 1, 2, 3, 4, 5, 6, 7] rfl (fun r u H1 locs hp hk hP1 hS => ?_)
  subst hp
  obtain ⟨u1, hu1⟩ : ∃ w, w = (cBeg z).2 := ⟨_, rfl⟩
  have hP : va_P D vwCl (wC cA q N S u1) H1 := by rw [hu1]; exact hP1
  have hD : va_D (k_A (wC cA q N S z)) (wC cA q N S u1) := k_D hD rfl
  generalize H1 = H at hP hS ⊢
  refine lv_if_ne (tgt := 9) hx hb d_A_writeCell_4 rfl (fun g4 => ?_) (fun g4 => ?_)
  · have h4 := bi_nz.mp g4
    refine lv_aload_n hx hb d_A_writeCell_9 rfl (lv_at hl 0 rfl) ?_
    refine va_get (D := D) (ci := 3) (v := .ref (q 1)) (C := R_A) (T := T_A) (N := 11) hx hb hts (in_A) hown hK hP 0 rfl rfl 2 (by decide) (hts _ m_f_A_25) (fun _ h9 => h9) rfl d_A_writeCell_10 ?_
    refine lv_iload_n hx hb d_A_writeCell_13 rfl (lv_at hl 1 rfl) ?_
    refine lv_iload_n hx hb d_A_writeCell_14 rfl (lv_at hl 2 rfl) ?_
    refine lv_iload_n hx hb d_A_writeCell_15 rfl (lv_at hl 3 rfl) ?_
    refine k_wrv (va_runV (C := R_D) (As := [.int (nI a), .int (nI b), .int w]) (rest := []) ⟨hx, hb, hml, hown, hts⟩ (c_Disks_put l D cA (q 1) (q 2) (q 3) N S (cW u1) (cP u1) (by omega) (by omega) (by omega) (by omega) a b w (by omega) (by omega)) (k_cwV 3 hts m_code_D_put m_ini_D m_l_A_157 m_inst_D_put m_sel_D_put h_D_put rfl rfl ⟨Nat.le_of_ble_eq_true rfl, Nat.le_of_ble_eq_true rfl⟩) (k_pW hP hK hD [1, 2, 3] (by decide) rfl 1 0 rfl rfl) rfl rfl hl.1 rfl (lv_room (Nat.le_of_ble_eq_true rfl)) d_A_writeCell_16 ⟨Nat.zero_le _, Nat.zero_le _⟩) hS hD [1, 2, 3] rfl (fun u H1 locs _ hk hP1 hS => ?_)
    have hP : va_P D vwCl (wC cA q N S (sW u1 (upd (cW u1) (a * S + b) w))) H1 := k_bk hP hD [1, 2, 3] [0, 4, 5, 6, 7] rfl (by decide) hk hP1 [0, 5, 6, 7, 1, 2, 3, 4] rfl
    have hD : va_D (k_A (wC cA q N S z)) (wC cA q N S (sW u1 (upd (cW u1) (a * S + b) w))) := k_D hD rfl
    generalize H1 = H at hP hS ⊢
    refine lv_aload_n hx hb d_A_writeCell_19 rfl (lv_at hl 0 rfl) ?_
    refine lv_dup hx hb d_A_writeCell_20 rfl ?_
    refine va_get (D := D) (ci := 3) (v := .int (cWc (sW u1 (upd (cW u1) (a * S + b) w)))) (C := R_A) (T := T_A) (N := 11) hx hb hts (in_A) hown hK hP 0 rfl rfl 10 (by decide) (hts _ m_f_A_184) (fun _ h9 => h9) rfl d_A_writeCell_21 ?_
    refine lv_iconst (v := 1) hx hb d_A_writeCell_24 (by decide) ?_
    refine lv_iadd hx hb d_A_writeCell_25 ?_
    refine va_put (D := D) (ci := 3) (v := .int ((cWc (sW u1 (upd (cW u1) (a * S + b) w))) + 1)) (ty := .int) (C := R_A) (T := T_A) (N := 11) hx hb hts (in_A) ty_A tyok_A nm_A hown hK hP hD hS 0 rfl rfl 10 (by decide) (hts _ m_f_A_184) (fun _ h9 => h9) rfl (by decide +kernel) rfl rfl (Nat.le_of_ble_eq_true rfl) d_A_writeCell_26 (fun H locs hP hD hS => ?_)
    have hP : va_P D vwCl (wC cA q N S (sWc (sW u1 (upd (cW u1) (a * S + b) w)) ((cWc (sW u1 (upd (cW u1) (a * S + b) w))) + 1))) H := hP
    have hD : va_D (k_A (wC cA q N S z)) (wC cA q N S (sWc (sW u1 (upd (cW u1) (a * S + b) w)) ((cWc (sW u1 (upd (cW u1) (a * S + b) w))) + 1))) := hD
    refine lv_iconst (v := 1) hx hb d_A_writeCell_29 (by decide) ?_
    have e2 : (cWr S a b w z).2 = sWc (sW u1 (upd (cW u1) (a * S + b) w)) ((cWc (sW u1 (upd (cW u1) (a * S + b) w))) + 1) := by subst hu1; first | ((try unfold cWr); (try unfold cPut); (repeat (first | rw [if_pos g4] | rw [if_neg g4] | rw [if_pos h4] | rw [if_neg h4] | rw [if_neg (show ¬ true = false by decide)] | rw [if_pos (show false = false from rfl)] | dsimp only)); first | done | rfl) | rfl | (simp [cWr, cPut, bi, g4, h4]; done)
    exact W.zret (v := 1) (ty := .boolean) hx hb hr (rfl) (fun t ht hW => ⟨⟨_, (), rfl, by subst hu1; first | ((try unfold cWr); (try unfold cPut); (repeat (first | rw [if_pos g4] | rw [if_neg g4] | rw [if_pos h4] | rw [if_neg h4] | rw [if_neg (show ¬ true = false by decide)] | rw [if_pos (show false = false from rfl)] | dsimp only)); first | done | rfl) | rfl | (simp [cWr, cPut, bi, g4, h4]; done), by show va_P D vwCl (wC cA q N S ((cWr S a b w z).2)) t.heap; rw [ht, e2]; exact hP⟩, hS.F ht⟩) hS.2.2 d_A_writeCell_30
  · have h4 := bi_z.mp g4
    refine lv_iconst (v := 0) hx hb d_A_writeCell_7 (by decide) ?_
    have e3 : (cWr S a b w z).2 = u1 := by subst hu1; first | ((try unfold cWr); (try unfold cPut); (repeat (first | rw [if_pos g4] | rw [if_neg g4] | rw [if_pos h4] | rw [if_neg h4] | rw [if_neg (show ¬ true = false by decide)] | rw [if_pos (show false = false from rfl)] | dsimp only)); first | done | rfl) | rfl | (simp [cWr, cPut, bi, g4, h4]; done)
    exact W.zret (v := 0) (ty := .boolean) hx hb hr (rfl) (fun t ht hW => ⟨⟨_, (), rfl, by subst hu1; first | ((try unfold cWr); (try unfold cPut); (repeat (first | rw [if_pos g4] | rw [if_neg g4] | rw [if_pos h4] | rw [if_neg h4] | rw [if_neg (show ¬ true = false by decide)] | rw [if_pos (show false = false from rfl)] | dsimp only)); first | done | rfl) | rfl | (simp [cWr, cPut, bi, g4, h4]; done), by show va_P D vwCl (wC cA q N S ((cWr S a b w z).2)) t.heap; rw [ht, e3]; exact hP⟩, hS.F ht⟩) hS.2.2 d_A_writeCell_8
set_option maxHeartbeats 4000000 in
set_option maxRecDepth 100000 in
theorem c_DualParityArray_readAvailableCells (l : Launch) (D : va_G) (cA : ClassId) (q : Nat → Nat) (N S : Nat) (z : CS) (gN4 : 4 ≤ N) (gN : N ≤ 10) (gS1 : 1 ≤ S) (gS : S ≤ 16) (b : Nat) (hb1 : b < S) : Met l y_A_readAvailableCells w_A_readAvailableCells ({ frames := 4, cells := 0, slots := 0, locals := 97 }) (va_Pc [.ref (q 0), .int (nI b)] (k_WT D [(cA, .int)] (wC cA q N S z))) (va_Qv (fun (_ : Unit) => True) (fun _ t => va_P D vwCl (wC cA q N S (cRA N S b z)) t.heap) (k_A (wC cA q N S z))) 0 0 (k_A (wC cA q N S z)) := by
  refine Met.ofW (cc := b_A_readAvailableCells) (maxL := 2) (ret := none) (by decide) rfl ?_
  intro p e s m args below meth c s₁ B hml hv
  obtain ⟨rfl, hP, hK, hD0, hTb⟩ := hv
  have hx := B.exec
  have hb := B.bytes
  have hr := B.returns
  have hts0 := atoms_spec (ws := w_A_readAvailableCells) B.pre
  have hts : ∀ w ∈ lw_g, w.before _ s = true := fun w h => hts0 w (List.mem_cons_of_mem _ h)
  have hown : s.vm.findClass R_A = some m.cls := findClass_of_methodNamed B.named
  have hlocks := B.notSynchronized
  have hD := k_Dself hD0
  have hS : va_S (k_A (wC cA q N S z)) s.heap s.heap [] := va_S.rf
  have hl := lv_entry ([.ref (q 0), .int (nI b)]) (n := 2) (Nat.le_of_ble_eq_true rfl)
  rw [lg_entry_eq]
  generalize (lg_sl ([.ref (q 0), .int (nI b)]) ++ List.replicate (2 - (lg_sl ([.ref (q 0), .int (nI b)])).length) Slot.unset).toArray = ls at hl ⊢
  have hl : lv_has ls 2 [(0, .ref (q 0)), (1, .int (nI b))] := hl
  refine lv_aload_n hx hb d_A_readAvailableCells_0 rfl (lv_at hl 0 rfl) ?_
  refine va_get (D := D) (ci := 3) (v := .ref (q 4)) (C := R_A) (T := T_A) (N := 11) hx hb hts (in_A) hown hK hP 0 rfl rfl 4 (by decide) (hts _ m_f_A_41) (fun _ h9 => h9) rfl d_A_readAvailableCells_1 ?_
  refine lv_aload_n hx hb d_A_readAvailableCells_4 rfl (lv_at hl 0 rfl) ?_
  refine va_get (D := D) (ci := 3) (v := .ref (q 1)) (C := R_A) (T := T_A) (N := 11) hx hb hts (in_A) hown hK hP 0 rfl rfl 2 (by decide) (hts _ m_f_A_25) (fun _ h9 => h9) rfl d_A_readAvailableCells_5 ?_
  refine lv_iload_n hx hb d_A_readAvailableCells_8 rfl (lv_at hl 1 rfl) ?_
  refine k_wrv (va_runV (C := R_S) (As := [.ref (q 1), .int (nI b)]) (rest := []) ⟨hx, hb, hml, hown, hts⟩ (c_Stripe_load l D cA (q 1) (q 2) (q 3) N S (cW z) (cP z) (q 4) (q 5) (cV z) (by omega) (by omega) (by omega) (by omega) b (by omega)) (k_cwV 2 hts m_code_S_load m_ini_S m_l_A_177 m_inst_S_load m_sel_S_load h_S_load rfl rfl ⟨Nat.le_of_ble_eq_true rfl, Nat.le_of_ble_eq_true rfl⟩) (k_pT hP hK hD hTb hS [1, 2, 3, 4, 5] (by decide) rfl 4 2 rfl rfl) rfl rfl hl.1 rfl (lv_room (Nat.le_of_ble_eq_true rfl)) d_A_readAvailableCells_9 ⟨Nat.zero_le _, Nat.zero_le _⟩) hS hD [1, 2, 3, 4, 5] rfl (fun u H1 locs _ hk hP1 hS => ?_)
  have hP : va_P D vwCl (wC cA q N S (sV z (ldV N S b (cW z) (cP z) (cV z)))) H1 := k_bk hP hD [1, 2, 3, 4, 5] [0, 6, 7] rfl (by decide) hk hP1 [0, 3, 4, 5, 6, 7, 1, 2] rfl
  have hD : va_D (k_A (wC cA q N S z)) (wC cA q N S (sV z (ldV N S b (cW z) (cP z) (cV z)))) := k_D hD rfl
  generalize H1 = H at hP hS ⊢
  refine lv_aload_n hx hb d_A_readAvailableCells_12 rfl (lv_at hl 0 rfl) ?_
  refine lv_dup hx hb d_A_readAvailableCells_13 rfl ?_
  refine va_get (D := D) (ci := 3) (v := .int (cRc (sV z (ldV N S b (cW z) (cP z) (cV z))))) (C := R_A) (T := T_A) (N := 11) hx hb hts (in_A) hown hK hP 0 rfl rfl 9 (by decide) (hts _ m_f_A_69) (fun _ h9 => h9) rfl d_A_readAvailableCells_14 ?_
  refine lv_aload_n hx hb d_A_readAvailableCells_17 rfl (lv_at hl 0 rfl) ?_
  refine va_get (D := D) (ci := 3) (v := .ref (q 1)) (C := R_A) (T := T_A) (N := 11) hx hb hts (in_A) hown hK hP 0 rfl rfl 2 (by decide) (hts _ m_f_A_25) (fun _ h9 => h9) rfl d_A_readAvailableCells_18 ?_
  refine lv_iload_n hx hb d_A_readAvailableCells_21 rfl (lv_at hl 1 rfl) ?_
  refine k_roi (va_runV (C := R_D) (As := [.int (nI b)]) (rest := [.int (cRc (sV z (ldV N S b (cW z) (cP z) (cV z)))), .ref (q 0)]) ⟨hx, hb, hml, hown, hts⟩ (c_Disks_countAvailable l D cA (q 1) (q 2) (q 3) N S (cW (sV z (ldV N S b (cW z) (cP z) (cV z)))) (cP (sV z (ldV N S b (cW z) (cP z) (cV z)))) (by omega) (by omega) (by omega) (by omega) (nI b)) (k_cwV 1 hts m_code_D_countAvailable m_ini_D m_l_A_189 m_inst_D_countAvailable m_sel_D_countAvailable h_D_countAvailable rfl rfl ⟨Nat.le_of_ble_eq_true rfl, Nat.le_of_ble_eq_true rfl⟩) (k_pR hP hK [1, 2, 3] rfl 1 0 rfl rfl) rfl rfl hl.1 rfl (lv_room (Nat.le_of_ble_eq_true rfl)) d_A_readAvailableCells_22 ⟨Nat.zero_le _, Nat.zero_le _⟩) ?_
  have f1 : cntA (cP (sV z (ldV N S b (cW z) (cP z) (cV z)))) (nI b) N ≤ N := cntA_le _ _ _
  refine lv_iadd hx hb d_A_readAvailableCells_25 ?_
  refine va_put (D := D) (ci := 3) (v := .int ((cRc (sV z (ldV N S b (cW z) (cP z) (cV z)))) + (nI (cntA (cP (sV z (ldV N S b (cW z) (cP z) (cV z)))) (nI b) N)))) (ty := .int) (C := R_A) (T := T_A) (N := 11) hx hb hts (in_A) ty_A tyok_A nm_A hown hK hP hD hS 0 rfl rfl 9 (by decide) (hts _ m_f_A_69) (fun _ h9 => h9) rfl (by decide +kernel) rfl rfl (Nat.le_of_ble_eq_true rfl) d_A_readAvailableCells_26 (fun H locs hP hD hS => ?_)
  have hP : va_P D vwCl (wC cA q N S (sRc (sV z (ldV N S b (cW z) (cP z) (cV z))) ((cRc (sV z (ldV N S b (cW z) (cP z) (cV z)))) + (nI (cntA (cP (sV z (ldV N S b (cW z) (cP z) (cV z)))) (nI b) N))))) H := hP
  have hD : va_D (k_A (wC cA q N S z)) (wC cA q N S (sRc (sV z (ldV N S b (cW z) (cP z) (cV z))) ((cRc (sV z (ldV N S b (cW z) (cP z) (cV z)))) + (nI (cntA (cP (sV z (ldV N S b (cW z) (cP z) (cV z)))) (nI b) N))))) := hD
  have e2 : cRA N S b z = sRc (sV z (ldV N S b (cW z) (cP z) (cV z))) ((cRc (sV z (ldV N S b (cW z) (cP z) (cV z)))) + (nI (cntA (cP (sV z (ldV N S b (cW z) (cP z) (cV z)))) (nI b) N))) := by first | rfl | (simp [cRA, cLd]; done) | omega
  exact W.vret hx hb hr (fun t ht hW => ⟨⟨(), rfl, trivial, by show va_P D vwCl (wC cA q N S (cRA N S b z)) t.heap; rw [ht, e2]; exact hP⟩, hS.F ht⟩) hS.2.2 d_A_readAvailableCells_29
set_option maxHeartbeats 4000000 in
set_option maxRecDepth 100000 in
theorem c_DualParityArray_logColumns (l : Launch) (D : va_G) (cA : ClassId) (q : Nat → Nat) (N S : Nat) (z : CS) (gN4 : 4 ≤ N) (gN : N ≤ 10) (gS1 : 1 ≤ S) (gS : S ≤ 16) (b f n : Nat) (hb1 : b < S) (hfn : f + n ≤ N - 2) : Met l y_A_logColumns w_A_logColumns ({ frames := 2, cells := 0, slots := 0, locals := 46 }) (va_Pc [.ref (q 0), .int (nI b), .int (nI f), .int (nI n)] (k_Wc D [(cA, .int)] (wC cA q N S z))) (va_Qi (fun (r : Int32) (_ : Unit) => r = bi ((cLog N b f n z).1)) (fun _ t => va_P D vwCl (wC cA q N S ((cLog N b f n z).2)) t.heap) (k_A (wC cA q N S z))) 0 0 (k_A (wC cA q N S z)) := by
  refine Met.ofW (cc := b_A_logColumns) (maxL := 5) (ret := (some .boolean)) (by decide) rfl ?_
  intro p e s m args below meth c s₁ B hml hv
  obtain ⟨rfl, hP, hK, hD0⟩ := hv
  have hx := B.exec
  have hb := B.bytes
  have hr := B.returns
  have hts0 := atoms_spec (ws := w_A_logColumns) B.pre
  have hts : ∀ w ∈ lw_g, w.before _ s = true := fun w h => hts0 w (List.mem_cons_of_mem _ h)
  have hown : s.vm.findClass R_A = some m.cls := findClass_of_methodNamed B.named
  have hlocks := B.notSynchronized
  have hD := k_Dself hD0
  have hS : va_S (k_A (wC cA q N S z)) s.heap s.heap [] := va_S.rf
  have hl := lv_entry ([.ref (q 0), .int (nI b), .int (nI f), .int (nI n)]) (n := 5) (Nat.le_of_ble_eq_true rfl)
  rw [lg_entry_eq]
  generalize (lg_sl ([.ref (q 0), .int (nI b), .int (nI f), .int (nI n)]) ++ List.replicate (5 - (lg_sl ([.ref (q 0), .int (nI b), .int (nI f), .int (nI n)])).length) Slot.unset).toArray = ls at hl ⊢
  have hl : lv_has ls 5 [(0, .ref (q 0)), (1, .int (nI b)), (2, .int (nI f)), (3, .int (nI n))] := hl
  refine lv_iconst (v := 0) hx hb d_A_logColumns_0 (by decide) ?_
  refine lv_istore (lv' := [(4, .int 0), (0, .ref (q 0)), (1, .int (nI b)), (2, .int (nI f)), (3, .int (nI n))]) hx hb d_A_logColumns_1 hl (by decide) rfl (fun ls hl => ?_)
  have L3 : ∀ (k : Nat) (i : Nat) (zi : CS) (ls : Array Slot) (H : Heap) (locs : List Loc), i + k = n + 2 → cActs (n + 2) z = cActs k zi → lv_has ls 5 [(0, .ref (q 0)), (1, .int (nI b)), (2, .int (nI f)), (3, .int (nI n)), (4, .int (nI i))] → va_P D vwCl (wC cA q N S zi) H → va_S (k_A (wC cA q N S z)) s.heap H locs → W p l e (headSpec w_A_logColumns ({ frames := 2, cells := 0, slots := 0, locals := 46 })).room s m ([.ref (q 0), .int (nI b), .int (nI f), .int (nI n)] : List Value).toArray below meth c H locs 0 0 (MQ below (va_Qi (fun (r : Int32) (_ : Unit) => r = bi ((cLog N b f n z).1)) (fun _ t => va_P D vwCl (wC cA q N S ((cLog N b f n z).2)) t.heap) (k_A (wC cA q N S z))) ([.ref (q 0), .int (nI b), .int (nI f), .int (nI n)] : List Value).toArray s 0 0 (k_A (wC cA q N S z))) (F0 m 3 ls []) := by
    intro k
    induction k with
    | zero =>
      intro i zi ls H locs hk hr0 hl hP hS
      have hD := k_D (ws' := wC cA q N S zi) hD rfl
      have hr1 : cActs (n + 2) z = (true, zi) := hr0
      refine lv_iload hx hb d_A_logColumns_3 (lv_at hl 4 rfl) ?_
      refine lv_iload_n hx hb d_A_logColumns_5 rfl (lv_at hl 3 rfl) ?_
      refine lv_iconst (v := 2) hx hb d_A_logColumns_6 (by decide) ?_
      refine lv_iadd hx hb d_A_logColumns_7 ?_
      refine k_top (nI (n + 2)) (nI_add n 2) ?_
      refine lv_icmp_ge (tgt := 26) hx hb d_A_logColumns_8 rfl (fun g8 => ?_) (fun g8 => ?_)
      · have h8 : (n + 2) ≤ i := (nI_leI (a := n + 2) (b := i) (by omega) (by omega)).mp g8
        have k8 : ¬ i < (n + 2) := by omega
        refine lv_aload_n hx hb d_A_logColumns_26 rfl (lv_at hl 0 rfl) ?_
        refine k_wri (va_runV (C := R_A) (As := []) (rest := []) ⟨hx, hb, hml, hown, hts⟩ (c_DualParityArray_beginAct l D cA q N S zi (by omega) (by omega) (by omega) (by omega)) (k_cwV 0 hts m_code_A_beginAct m_ini_A m_l_A_132 m_inst_A_beginAct m_sel_A_beginAct h_A_beginAct rfl rfl ⟨Nat.le_of_ble_eq_true rfl, Nat.le_of_ble_eq_true rfl⟩) (k_pW hP hK hD [0, 1, 2, 3, 4, 5, 6, 7] (by decide) rfl 0 3 rfl rfl) rfl rfl hl.1 rfl (lv_room (Nat.le_of_ble_eq_true rfl)) d_A_logColumns_27 ⟨Nat.zero_le _, Nat.zero_le _⟩) hS hD [0, 1, 2, 3, 4, 5, 6, 7] rfl (fun r u H1 locs hp hk hP1 hS => ?_)
        subst hp
        obtain ⟨u1, hu1⟩ : ∃ w, w = (cBeg zi).2 := ⟨_, rfl⟩
        have hP : va_P D vwCl (wC cA q N S u1) H1 := by rw [hu1]; exact hP1
        have hD : va_D (k_A (wC cA q N S z)) (wC cA q N S u1) := k_D hD rfl
        generalize H1 = H at hP hS ⊢
        refine lv_if_ne (tgt := 35) hx hb d_A_logColumns_30 rfl (fun g30 => ?_) (fun g30 => ?_)
        · have h30 := bi_nz.mp g30
          refine lv_aload_n hx hb d_A_logColumns_35 rfl (lv_at hl 0 rfl) ?_
          refine va_get (D := D) (ci := 3) (v := .ref (q 6)) (C := R_A) (T := T_A) (N := 11) hx hb hts (in_A) hown hK hP 0 rfl rfl 3 (by decide) (hts _ m_f_A_34) (fun _ h9 => h9) rfl d_A_logColumns_36 ?_
          refine lv_iload_n hx hb d_A_logColumns_39 rfl (lv_at hl 1 rfl) ?_
          refine lv_iload_n hx hb d_A_logColumns_40 rfl (lv_at hl 2 rfl) ?_
          refine lv_iload_n hx hb d_A_logColumns_41 rfl (lv_at hl 3 rfl) ?_
          refine lv_aload_n hx hb d_A_logColumns_42 rfl (lv_at hl 0 rfl) ?_
          refine va_get (D := D) (ci := 3) (v := .ref (q 4)) (C := R_A) (T := T_A) (N := 11) hx hb hts (in_A) hown hK hP 0 rfl rfl 4 (by decide) (hts _ m_f_A_41) (fun _ h9 => h9) rfl d_A_logColumns_43 ?_
          refine k_wrv (va_runV (C := R_L) (As := [.int (nI b), .int (nI f), .int (nI n), .ref (q 4)]) (rest := []) ⟨hx, hb, hml, hown, hts⟩ (c_Log_seal l D cA (q 6) (q 7) N (cLs u1) (cLf u1) (cLc u1) (cX u1) (q 4) (q 5) (cV u1) (by omega) (by omega) (nI b) (nI f) (nI n)) (k_cwV 4 hts m_code_L_seal m_ini_L m_l_A_201 m_inst_L_seal m_sel_L_seal h_L_seal rfl rfl ⟨Nat.le_of_ble_eq_true rfl, Nat.le_of_ble_eq_true rfl⟩) (k_pW hP hK hD [6, 7, 4, 5] (by decide) rfl 6 1 rfl rfl) rfl rfl hl.1 rfl (lv_room (Nat.le_of_ble_eq_true rfl)) d_A_logColumns_46 ⟨Nat.zero_le _, Nat.zero_le _⟩) hS hD [6, 7, 4, 5] rfl (fun u H1 locs _ hk hP1 hS => ?_)
          have hP : va_P D vwCl (wC cA q N S (sX (sLc (sLf (sLs u1 (nI b)) (nI f)) (nI n)) (cpy N (cV u1) (cX u1) N))) H1 := k_bk hP hD [6, 7, 4, 5] [0, 1, 2, 3] rfl (by decide) hk hP1 [0, 1, 2, 3, 6, 7, 4, 5] rfl
          have hD : va_D (k_A (wC cA q N S z)) (wC cA q N S (sX (sLc (sLf (sLs u1 (nI b)) (nI f)) (nI n)) (cpy N (cV u1) (cX u1) N))) := k_D hD rfl
          generalize H1 = H at hP hS ⊢
          refine lv_iconst (v := 1) hx hb d_A_logColumns_49 (by decide) ?_
          have e2 : (cLog N b f n z).2 = sX (sLc (sLf (sLs u1 (nI b)) (nI f)) (nI n)) (cpy N (cV u1) (cX u1) N) := by subst hu1; first | ((try unfold cLog); (try unfold cSeal); (repeat (first | rw [hr1] | rw [if_pos g8] | rw [if_neg g8] | rw [if_pos h8] | rw [if_neg h8] | rw [if_pos k8] | rw [if_neg k8] | rw [if_pos g30] | rw [if_neg g30] | rw [if_pos h30] | rw [if_neg h30] | rw [if_neg (show ¬ true = false by decide)] | rw [if_pos (show false = false from rfl)] | dsimp only)); first | done | rfl) | rfl | (simp [cLog, cSeal, bi, hr1, g8, h8, k8, g30, h30]; done)
          exact W.zret (v := 1) (ty := .boolean) hx hb hr (rfl) (fun t ht hW => ⟨⟨_, (), rfl, by subst hu1; first | ((try unfold cLog); (try unfold cSeal); (repeat (first | rw [hr1] | rw [if_pos g8] | rw [if_neg g8] | rw [if_pos h8] | rw [if_neg h8] | rw [if_pos k8] | rw [if_neg k8] | rw [if_pos g30] | rw [if_neg g30] | rw [if_pos h30] | rw [if_neg h30] | rw [if_neg (show ¬ true = false by decide)] | rw [if_pos (show false = false from rfl)] | dsimp only)); first | done | rfl) | rfl | (simp [cLog, cSeal, bi, hr1, g8, h8, k8, g30, h30]; done), by show va_P D vwCl (wC cA q N S ((cLog N b f n z).2)) t.heap; rw [ht, e2]; exact hP⟩, hS.F ht⟩) hS.2.2 d_A_logColumns_50
        · have h30 := bi_z.mp g30
          refine lv_iconst (v := 0) hx hb d_A_logColumns_33 (by decide) ?_
          have e3 : (cLog N b f n z).2 = u1 := by subst hu1; first | ((try unfold cLog); (try unfold cSeal); (repeat (first | rw [hr1] | rw [if_pos g8] | rw [if_neg g8] | rw [if_pos h8] | rw [if_neg h8] | rw [if_pos k8] | rw [if_neg k8] | rw [if_pos g30] | rw [if_neg g30] | rw [if_pos h30] | rw [if_neg h30] | rw [if_neg (show ¬ true = false by decide)] | rw [if_pos (show false = false from rfl)] | dsimp only)); first | done | rfl) | rfl | (simp [cLog, cSeal, bi, hr1, g8, h8, k8, g30, h30]; done)
          exact W.zret (v := 0) (ty := .boolean) hx hb hr (rfl) (fun t ht hW => ⟨⟨_, (), rfl, by subst hu1; first | ((try unfold cLog); (try unfold cSeal); (repeat (first | rw [hr1] | rw [if_pos g8] | rw [if_neg g8] | rw [if_pos h8] | rw [if_neg h8] | rw [if_pos k8] | rw [if_neg k8] | rw [if_pos g30] | rw [if_neg g30] | rw [if_pos h30] | rw [if_neg h30] | rw [if_neg (show ¬ true = false by decide)] | rw [if_pos (show false = false from rfl)] | dsimp only)); first | done | rfl) | rfl | (simp [cLog, cSeal, bi, hr1, g8, h8, k8, g30, h30]; done), by show va_P D vwCl (wC cA q N S ((cLog N b f n z).2)) t.heap; rw [ht, e3]; exact hP⟩, hS.F ht⟩) hS.2.2 d_A_logColumns_34
      · have h8 : ¬ (n + 2) ≤ i := fun z => g8 ((nI_leI (a := n + 2) (b := i) (by omega) (by omega)).mpr z)
        have k8 : i < (n + 2) := by omega
        exfalso; omega
    | succ k ih =>
      intro i zi ls H locs hk hr0 hl hP hS
      have hD := k_D (ws' := wC cA q N S zi) hD rfl
      refine lv_iload hx hb d_A_logColumns_3 (lv_at hl 4 rfl) ?_
      refine lv_iload_n hx hb d_A_logColumns_5 rfl (lv_at hl 3 rfl) ?_
      refine lv_iconst (v := 2) hx hb d_A_logColumns_6 (by decide) ?_
      refine lv_iadd hx hb d_A_logColumns_7 ?_
      refine k_top (nI (n + 2)) (nI_add n 2) ?_
      refine lv_icmp_ge (tgt := 26) hx hb d_A_logColumns_8 rfl (fun g8 => ?_) (fun g8 => ?_)
      · have h8 : (n + 2) ≤ i := (nI_leI (a := n + 2) (b := i) (by omega) (by omega)).mp g8
        have k8 : ¬ i < (n + 2) := by omega
        exfalso; omega
      · have h8 : ¬ (n + 2) ≤ i := fun z => g8 ((nI_leI (a := n + 2) (b := i) (by omega) (by omega)).mpr z)
        have k8 : i < (n + 2) := by omega
        refine lv_aload_n hx hb d_A_logColumns_11 rfl (lv_at hl 0 rfl) ?_
        refine k_wri (va_runV (C := R_A) (As := []) (rest := []) ⟨hx, hb, hml, hown, hts⟩ (c_DualParityArray_beginAct l D cA q N S zi (by omega) (by omega) (by omega) (by omega)) (k_cwV 0 hts m_code_A_beginAct m_ini_A m_l_A_132 m_inst_A_beginAct m_sel_A_beginAct h_A_beginAct rfl rfl ⟨Nat.le_of_ble_eq_true rfl, Nat.le_of_ble_eq_true rfl⟩) (k_pW hP hK hD [0, 1, 2, 3, 4, 5, 6, 7] (by decide) rfl 0 3 rfl rfl) rfl rfl hl.1 rfl (lv_room (Nat.le_of_ble_eq_true rfl)) d_A_logColumns_12 ⟨Nat.zero_le _, Nat.zero_le _⟩) hS hD [0, 1, 2, 3, 4, 5, 6, 7] rfl (fun r u H1 locs hp hk hP1 hS => ?_)
        subst hp
        obtain ⟨u4, hu4⟩ : ∃ w, w = (cBeg zi).2 := ⟨_, rfl⟩
        have hP : va_P D vwCl (wC cA q N S u4) H1 := by rw [hu4]; exact hP1
        have hD : va_D (k_A (wC cA q N S z)) (wC cA q N S u4) := k_D hD rfl
        generalize H1 = H at hP hS ⊢
        refine lv_if_ne (tgt := 20) hx hb d_A_logColumns_15 rfl (fun g15 => ?_) (fun g15 => ?_)
        · have h15 := bi_nz.mp g15
          refine lv_iinc (k := 4) (v := nI (i + 1)) (lv' := [(4, .int (nI (i + 1))), (0, .ref (q 0)), (1, .int (nI b)), (2, .int (nI f)), (3, .int (nI n))]) hx hb d_A_logColumns_20 hl rfl (nI_add i 1) (by decide) rfl (fun ls hl => ?_)
          refine lv_goto hx hb d_A_logColumns_23 rfl ?_
          exact ih (i + 1) u4 ls H locs (by omega) (by subst hu4; first | exact hr0.trans (cActs_f h15) | rfl) (lv_sub hl [1, 2, 3, 4, 0] rfl) hP hS
        · have h15 := bi_z.mp g15
          have hr1 := hr0.trans (cActs_t h15)
          refine lv_iconst (v := 0) hx hb d_A_logColumns_18 (by decide) ?_
          have e5 : (cLog N b f n z).2 = u4 := by subst hu4; first | ((try unfold cLog); (try unfold cSeal); (repeat (first | rw [if_pos g8] | rw [if_neg g8] | rw [if_pos h8] | rw [if_neg h8] | rw [if_pos k8] | rw [if_neg k8] | rw [if_pos g15] | rw [if_neg g15] | rw [if_pos h15] | rw [if_neg h15] | rw [hr1] | rw [if_neg (show ¬ true = false by decide)] | rw [if_pos (show false = false from rfl)] | dsimp only)); first | done | rfl) | rfl | (simp [cLog, cSeal, bi, g8, h8, k8, g15, h15, hr1]; done)
          exact W.zret (v := 0) (ty := .boolean) hx hb hr (rfl) (fun t ht hW => ⟨⟨_, (), rfl, by subst hu4; first | ((try unfold cLog); (try unfold cSeal); (repeat (first | rw [if_pos g8] | rw [if_neg g8] | rw [if_pos h8] | rw [if_neg h8] | rw [if_pos k8] | rw [if_neg k8] | rw [if_pos g15] | rw [if_neg g15] | rw [if_pos h15] | rw [if_neg h15] | rw [hr1] | rw [if_neg (show ¬ true = false by decide)] | rw [if_pos (show false = false from rfl)] | dsimp only)); first | done | rfl) | rfl | (simp [cLog, cSeal, bi, g8, h8, k8, g15, h15, hr1]; done), by show va_P D vwCl (wC cA q N S ((cLog N b f n z).2)) t.heap; rw [ht, e5]; exact hP⟩, hS.F ht⟩) hS.2.2 d_A_logColumns_19
  have e6 : nI 0 = 0 := by first | rfl | (simp [cLog, cSeal, bi]; done) | omega
  exact L3 (n + 2) 0 z ls s.heap [] (by omega) (by first | exact hr0.trans (cActs_f h15) | rfl) (by rw [e6]; exact lv_sub hl [1, 2, 3, 4, 0] rfl) hP hS
set_option maxHeartbeats 4000000 in
set_option maxRecDepth 100000 in
theorem c_DualParityArray_carryOutEntry (l : Launch) (D : va_G) (cA : ClassId) (q : Nat → Nat) (N S : Nat) (z : CS) (gN4 : 4 ≤ N) (gN : N ≤ 10) (gS1 : 1 ≤ S) (gS : S ≤ 16) (b : Nat) (hb1 : b < S) (hls : cLs z = nI b) : Met l y_A_carryOutEntry w_A_carryOutEntry ({ frames := 3, cells := 0, slots := 0, locals := 63 }) (va_Pc [.ref (q 0)] (k_Wc D [(cA, .int)] (wC cA q N S z))) (va_Qi (fun (r : Int32) (_ : Unit) => r = bi ((cCar N S b z).1)) (fun _ t => va_P D vwCl (wC cA q N S ((cCar N S b z).2)) t.heap) (k_A (wC cA q N S z))) 0 0 (k_A (wC cA q N S z)) := by
  refine Met.ofW (cc := b_A_carryOutEntry) (maxL := 4) (ret := (some .boolean)) (by decide) rfl ?_
  intro p e s m args below meth c s₁ B hml hv
  obtain ⟨rfl, hP, hK, hD0⟩ := hv
  have hx := B.exec
  have hb := B.bytes
  have hr := B.returns
  have hts0 := atoms_spec (ws := w_A_carryOutEntry) B.pre
  have hts : ∀ w ∈ lw_g, w.before _ s = true := fun w h => hts0 w (List.mem_cons_of_mem _ h)
  have hown : s.vm.findClass R_A = some m.cls := findClass_of_methodNamed B.named
  have hlocks := B.notSynchronized
  have hD := k_Dself hD0
  have hS : va_S (k_A (wC cA q N S z)) s.heap s.heap [] := va_S.rf
  have hl := lv_entry ([.ref (q 0)]) (n := 4) (Nat.le_of_ble_eq_true rfl)
  rw [lg_entry_eq]
  generalize (lg_sl ([.ref (q 0)]) ++ List.replicate (4 - (lg_sl ([.ref (q 0)])).length) Slot.unset).toArray = ls at hl ⊢
  have hl : lv_has ls 4 [(0, .ref (q 0))] := hl
  refine lv_aload_n hx hb d_A_carryOutEntry_0 rfl (lv_at hl 0 rfl) ?_
  refine va_get (D := D) (ci := 3) (v := .ref (q 6)) (C := R_A) (T := T_A) (N := 11) hx hb hts (in_A) hown hK hP 0 rfl rfl 3 (by decide) (hts _ m_f_A_34) (fun _ h9 => h9) rfl d_A_carryOutEntry_1 ?_
  refine k_roi (va_runV (C := R_L) (As := []) (rest := []) ⟨hx, hb, hml, hown, hts⟩ (c_Log_sealedStripe l D cA (q 6) (q 7) N (cLs z) (cLf z) (cLc z) (cX z) (by omega) (by omega)) (k_cwV 0 hts m_code_L_sealedStripe m_ini_L m_l_A_181 m_inst_L_sealedStripe m_sel_L_sealedStripe h_L_sealedStripe rfl rfl ⟨Nat.le_of_ble_eq_true rfl, Nat.le_of_ble_eq_true rfl⟩) (k_pR hP hK [6, 7] rfl 6 1 rfl rfl) rfl rfl hl.1 rfl (lv_room (Nat.le_of_ble_eq_true rfl)) d_A_carryOutEntry_4 ⟨Nat.zero_le _, Nat.zero_le _⟩) ?_
  refine k_top (nI b) (by exact hls) ?_
  refine lv_istore_n (lv' := [(1, .int (nI b)), (0, .ref (q 0))]) hx hb d_A_carryOutEntry_7 rfl hl (by decide) rfl (fun ls hl => ?_)
  refine lv_iconst (v := 0) hx hb d_A_carryOutEntry_8 (by decide) ?_
  refine lv_istore_n (lv' := [(2, .int 0), (1, .int (nI b)), (0, .ref (q 0))]) hx hb d_A_carryOutEntry_9 rfl hl (by decide) rfl (fun ls hl => ?_)
  have L10 : ∀ (k : Nat) (i : Nat) (zi : CS) (ls : Array Slot) (H : Heap) (locs : List Loc), i + k = N → cCarL N S b N z = cCarL N S b k zi → lv_has ls 4 [(0, .ref (q 0)), (1, .int (nI b)), (2, .int (nI i))] → va_P D vwCl (wC cA q N S zi) H → va_S (k_A (wC cA q N S z)) s.heap H locs → W p l e (headSpec w_A_carryOutEntry ({ frames := 3, cells := 0, slots := 0, locals := 63 })).room s m ([.ref (q 0)] : List Value).toArray below meth c H locs 0 0 (MQ below (va_Qi (fun (r : Int32) (_ : Unit) => r = bi ((cCar N S b z).1)) (fun _ t => va_P D vwCl (wC cA q N S ((cCar N S b z).2)) t.heap) (k_A (wC cA q N S z))) ([.ref (q 0)] : List Value).toArray s 0 0 (k_A (wC cA q N S z))) (F0 m 10 ls []) := by
    intro k
    induction k with
    | zero =>
      intro i zi ls H locs hk hr0 hl hP hS
      have hD := k_D (ws' := wC cA q N S zi) hD rfl
      have hr1 : cCarL N S b N z = (true, zi) := hr0
      refine lv_iload_n hx hb d_A_carryOutEntry_10 rfl (lv_at hl 2 rfl) ?_
      refine lv_aload_n hx hb d_A_carryOutEntry_11 rfl (lv_at hl 0 rfl) ?_
      refine va_get (D := D) (ci := 3) (v := .int (nI (N - 2))) (C := R_A) (T := T_A) (N := 11) hx hb hts (in_A) hown hK hP 0 rfl rfl 1 (by decide) (hts _ m_f_A_17) (fun _ h9 => h9) rfl d_A_carryOutEntry_12 ?_
      refine lv_iconst (v := 2) hx hb d_A_carryOutEntry_15 (by decide) ?_
      refine lv_iadd hx hb d_A_carryOutEntry_16 ?_
      refine k_top (nI (N - 2 + 2)) (nI_add (N - 2) 2) ?_
      refine lv_icmp_ge (tgt := 78) hx hb d_A_carryOutEntry_17 rfl (fun g17 => ?_) (fun g17 => ?_)
      · have h17 : (N - 2 + 2) ≤ i := (nI_leI (a := N - 2 + 2) (b := i) (by omega) (by omega)).mp g17
        have k17 : ¬ i < (N - 2 + 2) := by omega
        refine lv_aload_n hx hb d_A_carryOutEntry_78 rfl (lv_at hl 0 rfl) ?_
        refine k_wri (va_runV (C := R_A) (As := []) (rest := []) ⟨hx, hb, hml, hown, hts⟩ (c_DualParityArray_beginAct l D cA q N S zi (by omega) (by omega) (by omega) (by omega)) (k_cwV 0 hts m_code_A_beginAct m_ini_A m_l_A_132 m_inst_A_beginAct m_sel_A_beginAct h_A_beginAct rfl rfl ⟨Nat.le_of_ble_eq_true rfl, Nat.le_of_ble_eq_true rfl⟩) (k_pW hP hK hD [0, 1, 2, 3, 4, 5, 6, 7] (by decide) rfl 0 3 rfl rfl) rfl rfl hl.1 rfl (lv_room (Nat.le_of_ble_eq_true rfl)) d_A_carryOutEntry_79 ⟨Nat.zero_le _, Nat.zero_le _⟩) hS hD [0, 1, 2, 3, 4, 5, 6, 7] rfl (fun r u H1 locs hp hk hP1 hS => ?_)
        subst hp
        obtain ⟨u1, hu1⟩ : ∃ w, w = (cBeg zi).2 := ⟨_, rfl⟩
        have hP : va_P D vwCl (wC cA q N S u1) H1 := by rw [hu1]; exact hP1
        have hD : va_D (k_A (wC cA q N S z)) (wC cA q N S u1) := k_D hD rfl
        generalize H1 = H at hP hS ⊢
        refine lv_if_ne (tgt := 87) hx hb d_A_carryOutEntry_82 rfl (fun g82 => ?_) (fun g82 => ?_)
        · have h82 := bi_nz.mp g82
          refine lv_aload_n hx hb d_A_carryOutEntry_87 rfl (lv_at hl 0 rfl) ?_
          refine va_get (D := D) (ci := 3) (v := .ref (q 6)) (C := R_A) (T := T_A) (N := 11) hx hb hts (in_A) hown hK hP 0 rfl rfl 3 (by decide) (hts _ m_f_A_34) (fun _ h9 => h9) rfl d_A_carryOutEntry_88 ?_
          refine k_wrv (va_runV (C := R_L) (As := []) (rest := []) ⟨hx, hb, hml, hown, hts⟩ (c_Log_clear l D cA (q 6) (q 7) N (cLs u1) (cLf u1) (cLc u1) (cX u1) (by omega) (by omega)) (k_cwV 0 hts m_code_L_clear m_ini_L m_l_A_211 m_inst_L_clear m_sel_L_clear h_L_clear rfl rfl ⟨Nat.le_of_ble_eq_true rfl, Nat.le_of_ble_eq_true rfl⟩) (k_pW hP hK hD [6, 7] (by decide) rfl 6 1 rfl rfl) rfl rfl hl.1 rfl (lv_room (Nat.le_of_ble_eq_true rfl)) d_A_carryOutEntry_91 ⟨Nat.zero_le _, Nat.zero_le _⟩) hS hD [6, 7] rfl (fun u H1 locs _ hk hP1 hS => ?_)
          have hP : va_P D vwCl (wC cA q N S (sLs u1 (-1))) H1 := k_bk hP hD [6, 7] [0, 1, 2, 3, 4, 5] rfl (by decide) hk hP1 [0, 1, 2, 3, 4, 5, 6, 7] rfl
          have hD : va_D (k_A (wC cA q N S z)) (wC cA q N S (sLs u1 (-1))) := k_D hD rfl
          generalize H1 = H at hP hS ⊢
          refine lv_iconst (v := 1) hx hb d_A_carryOutEntry_94 (by decide) ?_
          have e2 : (cCar N S b z).2 = sLs u1 (-1) := by subst hu1; first | ((try unfold cCar); (repeat (first | rw [hr1] | rw [if_pos g17] | rw [if_neg g17] | rw [if_pos h17] | rw [if_neg h17] | rw [if_pos k17] | rw [if_neg k17] | rw [if_pos g82] | rw [if_neg g82] | rw [if_pos h82] | rw [if_neg h82] | rw [if_neg (show ¬ true = false by decide)] | rw [if_pos (show false = false from rfl)] | dsimp only)); first | done | rfl) | rfl | (simp [cCar, bi, hr1, g17, h17, k17, g82, h82]; done)
          exact W.zret (v := 1) (ty := .boolean) hx hb hr (rfl) (fun t ht hW => ⟨⟨_, (), rfl, by subst hu1; first | ((try unfold cCar); (repeat (first | rw [hr1] | rw [if_pos g17] | rw [if_neg g17] | rw [if_pos h17] | rw [if_neg h17] | rw [if_pos k17] | rw [if_neg k17] | rw [if_pos g82] | rw [if_neg g82] | rw [if_pos h82] | rw [if_neg h82] | rw [if_neg (show ¬ true = false by decide)] | rw [if_pos (show false = false from rfl)] | dsimp only)); first | done | rfl) | rfl | (simp [cCar, bi, hr1, g17, h17, k17, g82, h82]; done), by show va_P D vwCl (wC cA q N S ((cCar N S b z).2)) t.heap; rw [ht, e2]; exact hP⟩, hS.F ht⟩) hS.2.2 d_A_carryOutEntry_95
        · have h82 := bi_z.mp g82
          refine lv_iconst (v := 0) hx hb d_A_carryOutEntry_85 (by decide) ?_
          have e3 : (cCar N S b z).2 = u1 := by subst hu1; first | ((try unfold cCar); (repeat (first | rw [hr1] | rw [if_pos g17] | rw [if_neg g17] | rw [if_pos h17] | rw [if_neg h17] | rw [if_pos k17] | rw [if_neg k17] | rw [if_pos g82] | rw [if_neg g82] | rw [if_pos h82] | rw [if_neg h82] | rw [if_neg (show ¬ true = false by decide)] | rw [if_pos (show false = false from rfl)] | dsimp only)); first | done | rfl) | rfl | (simp [cCar, bi, hr1, g17, h17, k17, g82, h82]; done)
          exact W.zret (v := 0) (ty := .boolean) hx hb hr (rfl) (fun t ht hW => ⟨⟨_, (), rfl, by subst hu1; first | ((try unfold cCar); (repeat (first | rw [hr1] | rw [if_pos g17] | rw [if_neg g17] | rw [if_pos h17] | rw [if_neg h17] | rw [if_pos k17] | rw [if_neg k17] | rw [if_pos g82] | rw [if_neg g82] | rw [if_pos h82] | rw [if_neg h82] | rw [if_neg (show ¬ true = false by decide)] | rw [if_pos (show false = false from rfl)] | dsimp only)); first | done | rfl) | rfl | (simp [cCar, bi, hr1, g17, h17, k17, g82, h82]; done), by show va_P D vwCl (wC cA q N S ((cCar N S b z).2)) t.heap; rw [ht, e3]; exact hP⟩, hS.F ht⟩) hS.2.2 d_A_carryOutEntry_86
      · have h17 : ¬ (N - 2 + 2) ≤ i := fun z => g17 ((nI_leI (a := N - 2 + 2) (b := i) (by omega) (by omega)).mpr z)
        have k17 : i < (N - 2 + 2) := by omega
        exfalso; omega
    | succ k ih =>
      intro i zi ls H locs hk hr0 hl hP hS
      have hD := k_D (ws' := wC cA q N S zi) hD rfl
      refine lv_iload_n hx hb d_A_carryOutEntry_10 rfl (lv_at hl 2 rfl) ?_
      refine lv_aload_n hx hb d_A_carryOutEntry_11 rfl (lv_at hl 0 rfl) ?_
      refine va_get (D := D) (ci := 3) (v := .int (nI (N - 2))) (C := R_A) (T := T_A) (N := 11) hx hb hts (in_A) hown hK hP 0 rfl rfl 1 (by decide) (hts _ m_f_A_17) (fun _ h9 => h9) rfl d_A_carryOutEntry_12 ?_
      refine lv_iconst (v := 2) hx hb d_A_carryOutEntry_15 (by decide) ?_
      refine lv_iadd hx hb d_A_carryOutEntry_16 ?_
      refine k_top (nI (N - 2 + 2)) (nI_add (N - 2) 2) ?_
      refine lv_icmp_ge (tgt := 78) hx hb d_A_carryOutEntry_17 rfl (fun g17 => ?_) (fun g17 => ?_)
      · have h17 : (N - 2 + 2) ≤ i := (nI_leI (a := N - 2 + 2) (b := i) (by omega) (by omega)).mp g17
        have k17 : ¬ i < (N - 2 + 2) := by omega
        exfalso; omega
      · have h17 : ¬ (N - 2 + 2) ≤ i := fun z => g17 ((nI_leI (a := N - 2 + 2) (b := i) (by omega) (by omega)).mpr z)
        have k17 : i < (N - 2 + 2) := by omega
        refine lv_aload_n hx hb d_A_carryOutEntry_20 rfl (lv_at hl 0 rfl) ?_
        refine va_get (D := D) (ci := 3) (v := .ref (q 1)) (C := R_A) (T := T_A) (N := 11) hx hb hts (in_A) hown hK hP 0 rfl rfl 2 (by decide) (hts _ m_f_A_25) (fun _ h9 => h9) rfl d_A_carryOutEntry_21 ?_
        refine lv_iload_n hx hb d_A_carryOutEntry_24 rfl (lv_at hl 2 rfl) ?_
        refine lv_iload_n hx hb d_A_carryOutEntry_25 rfl (lv_at hl 1 rfl) ?_
        refine k_roi (va_runV (C := R_D) (As := [.int (nI i), .int (nI b)]) (rest := []) ⟨hx, hb, hml, hown, hts⟩ (c_Disks_diskOf l D cA (q 1) (q 2) (q 3) N S (cW zi) (cP zi) (by omega) (by omega) (by omega) (by omega) i b (by omega) (by omega)) (k_cwV 2 hts m_code_D_diskOf m_ini_D m_l_A_61 m_inst_D_diskOf m_sel_D_diskOf h_D_diskOf rfl rfl ⟨Nat.le_of_ble_eq_true rfl, Nat.le_of_ble_eq_true rfl⟩) (k_pR hP hK [1, 2, 3] rfl 1 0 rfl rfl) rfl rfl hl.1 rfl (lv_room (Nat.le_of_ble_eq_true rfl)) d_A_carryOutEntry_26 ⟨Nat.zero_le _, Nat.zero_le _⟩) ?_
        have f4 : dk N i b < N := dk_lt (by omega)
        refine lv_istore_n (lv' := [(3, .int (nI (dk N i b))), (0, .ref (q 0)), (1, .int (nI b)), (2, .int (nI i))]) hx hb d_A_carryOutEntry_29 rfl hl (by decide) rfl (fun ls hl => ?_)
        refine lv_aload_n hx hb d_A_carryOutEntry_30 rfl (lv_at hl 1 rfl) ?_
        refine va_get (D := D) (ci := 3) (v := .ref (q 6)) (C := R_A) (T := T_A) (N := 11) hx hb hts (in_A) hown hK hP 0 rfl rfl 3 (by decide) (hts _ m_f_A_34) (fun _ h9 => h9) rfl d_A_carryOutEntry_31 ?_
        refine lv_iload_n hx hb d_A_carryOutEntry_34 rfl (lv_at hl 3 rfl) ?_
        refine k_roi (va_runV (C := R_L) (As := [.int (nI i)]) (rest := []) ⟨hx, hb, hml, hown, hts⟩ (c_Log_bears l D cA (q 6) (q 7) N (cLs zi) (cLf zi) (cLc zi) (cX zi) (by omega) (by omega) i (by omega)) (k_cwV 1 hts m_code_L_bears m_ini_L m_l_A_205 m_inst_L_bears m_sel_L_bears h_L_bears rfl rfl ⟨Nat.le_of_ble_eq_true rfl, Nat.le_of_ble_eq_true rfl⟩) (k_pR hP hK [6, 7] rfl 6 1 rfl rfl) rfl rfl hl.1 rfl (lv_room (Nat.le_of_ble_eq_true rfl)) d_A_carryOutEntry_35 ⟨Nat.zero_le _, Nat.zero_le _⟩) ?_
        refine lv_if_eq (tgt := 72) hx hb d_A_carryOutEntry_38 rfl (fun g38 => ?_) (fun g38 => ?_)
        · have h38 := of_decide_eq_false (bi_z.mp g38)
          refine lv_iinc (k := 3) (v := nI (i + 1)) (lv' := [(2, .int (nI (i + 1))), (3, .int (nI (dk N i b))), (0, .ref (q 0)), (1, .int (nI b))]) hx hb d_A_carryOutEntry_72 hl rfl (nI_add i 1) (by decide) rfl (fun ls hl => ?_)
          refine lv_goto hx hb d_A_carryOutEntry_75 rfl ?_
          exact ih (i + 1) zi ls H locs (by omega) (by first | exact hr0.trans (car_n (by omega) h38) | exact hr0.trans (car_a (by omega) h38 h50) | exact hr0.trans (car_f (by omega) h38 h50 h67) | rfl) (lv_sub hl [2, 3, 0] rfl) hP hS
        · have h38 := of_decide_eq_true (bi_nz.mp g38)
          refine lv_aload_n hx hb d_A_carryOutEntry_41 rfl (lv_at hl 1 rfl) ?_
          refine va_get (D := D) (ci := 3) (v := .ref (q 1)) (C := R_A) (T := T_A) (N := 11) hx hb hts (in_A) hown hK hP 0 rfl rfl 2 (by decide) (hts _ m_f_A_25) (fun _ h9 => h9) rfl d_A_carryOutEntry_42 ?_
          refine lv_iload_n hx hb d_A_carryOutEntry_45 rfl (lv_at hl 0 rfl) ?_
          refine lv_iload_n hx hb d_A_carryOutEntry_46 rfl (lv_at hl 2 rfl) ?_
          refine k_roi (va_runV (C := R_D) (As := [.int (nI (dk N i b)), .int (nI b)]) (rest := []) ⟨hx, hb, hml, hown, hts⟩ (c_Disks_available l D cA (q 1) (q 2) (q 3) N S (cW zi) (cP zi) (by omega) (by omega) (by omega) (by omega) (dk N i b) (nI b) (by omega)) (k_cwV 2 hts m_code_D_available m_ini_D m_l_A_65 m_inst_D_available m_sel_D_available h_D_available rfl rfl ⟨Nat.le_of_ble_eq_true rfl, Nat.le_of_ble_eq_true rfl⟩) (k_pR hP hK [1, 2, 3] rfl 1 0 rfl rfl) rfl rfl hl.1 rfl (lv_room (Nat.le_of_ble_eq_true rfl)) d_A_carryOutEntry_47 ⟨Nat.zero_le _, Nat.zero_le _⟩) ?_
          refine lv_if_eq (tgt := 72) hx hb d_A_carryOutEntry_50 rfl (fun g50 => ?_) (fun g50 => ?_)
          · have h50 := of_decide_eq_false (bi_z.mp g50)
            refine lv_iinc (k := 3) (v := nI (i + 1)) (lv' := [(2, .int (nI (i + 1))), (3, .int (nI (dk N i b))), (0, .ref (q 0)), (1, .int (nI b))]) hx hb d_A_carryOutEntry_72 hl rfl (nI_add i 1) (by decide) rfl (fun ls hl => ?_)
            refine lv_goto hx hb d_A_carryOutEntry_75 rfl ?_
            exact ih (i + 1) zi ls H locs (by omega) (by first | exact hr0.trans (car_n (by omega) h38) | exact hr0.trans (car_a (by omega) h38 h50) | exact hr0.trans (car_f (by omega) h38 h50 h67) | rfl) (lv_sub hl [2, 3, 0] rfl) hP hS
          · have h50 := of_decide_eq_true (bi_nz.mp g50)
            refine lv_aload_n hx hb d_A_carryOutEntry_53 rfl (lv_at hl 1 rfl) ?_
            refine lv_iload_n hx hb d_A_carryOutEntry_54 rfl (lv_at hl 0 rfl) ?_
            refine lv_iload_n hx hb d_A_carryOutEntry_55 rfl (lv_at hl 2 rfl) ?_
            refine lv_aload_n hx hb d_A_carryOutEntry_56 rfl (lv_at hl 1 rfl) ?_
            refine va_get (D := D) (ci := 3) (v := .ref (q 6)) (C := R_A) (T := T_A) (N := 11) hx hb hts (in_A) hown hK hP 0 rfl rfl 3 (by decide) (hts _ m_f_A_34) (fun _ h9 => h9) rfl d_A_carryOutEntry_57 ?_
            refine lv_iload_n hx hb d_A_carryOutEntry_60 rfl (lv_at hl 3 rfl) ?_
            refine k_roi (va_runV (C := R_L) (As := [.int (nI i)]) (rest := [.int (nI b), .int (nI (dk N i b)), .ref (q 0)]) ⟨hx, hb, hml, hown, hts⟩ (c_Log_wordOf l D cA (q 6) (q 7) N (cLs zi) (cLf zi) (cLc zi) (cX zi) (by omega) (by omega) i (by omega)) (k_cwV 1 hts m_code_L_wordOf m_ini_L m_l_A_208 m_inst_L_wordOf m_sel_L_wordOf h_L_wordOf rfl rfl ⟨Nat.le_of_ble_eq_true rfl, Nat.le_of_ble_eq_true rfl⟩) (k_pR hP hK [6, 7] rfl 6 1 rfl rfl) rfl rfl hl.1 rfl (lv_room (Nat.le_of_ble_eq_true rfl)) d_A_carryOutEntry_61 ⟨Nat.zero_le _, Nat.zero_le _⟩) ?_
            refine k_wri (va_runV (C := R_A) (As := [.int (nI (dk N i b)), .int (nI b), .int ((cX zi) i)]) (rest := []) ⟨hx, hb, hml, hown, hts⟩ (c_DualParityArray_writeCell l D cA q N S zi (by omega) (by omega) (by omega) (by omega) (dk N i b) b ((cX zi) i) (by omega) (by omega)) (k_cwV 3 hts m_code_A_writeCell m_ini_A m_l_A_128 m_inst_A_writeCell m_sel_A_writeCell h_A_writeCell rfl rfl ⟨Nat.le_of_ble_eq_true rfl, Nat.le_of_ble_eq_true rfl⟩) (k_pW hP hK hD [0, 1, 2, 3, 4, 5, 6, 7] (by decide) rfl 0 3 rfl rfl) rfl rfl hl.1 rfl (lv_room (Nat.le_of_ble_eq_true rfl)) d_A_carryOutEntry_64 ⟨Nat.zero_le _, Nat.zero_le _⟩) hS hD [0, 1, 2, 3, 4, 5, 6, 7] rfl (fun r u H1 locs hp hk hP1 hS => ?_)
            subst hp
            obtain ⟨u5, hu5⟩ : ∃ w, w = (cWr S (dk N i b) b ((cX zi) i) zi).2 := ⟨_, rfl⟩
            have hP : va_P D vwCl (wC cA q N S u5) H1 := by rw [hu5]; exact hP1
            have hD : va_D (k_A (wC cA q N S z)) (wC cA q N S u5) := k_D hD rfl
            generalize H1 = H at hP hS ⊢
            refine lv_if_ne (tgt := 72) hx hb d_A_carryOutEntry_67 rfl (fun g67 => ?_) (fun g67 => ?_)
            · have h67 := bi_nz.mp g67
              refine lv_iinc (k := 3) (v := nI (i + 1)) (lv' := [(2, .int (nI (i + 1))), (3, .int (nI (dk N i b))), (0, .ref (q 0)), (1, .int (nI b))]) hx hb d_A_carryOutEntry_72 hl rfl (nI_add i 1) (by decide) rfl (fun ls hl => ?_)
              refine lv_goto hx hb d_A_carryOutEntry_75 rfl ?_
              exact ih (i + 1) u5 ls H locs (by omega) (by subst hu5; first | exact hr0.trans (car_n (by omega) h38) | exact hr0.trans (car_a (by omega) h38 h50) | exact hr0.trans (car_f (by omega) h38 h50 h67) | rfl) (lv_sub hl [2, 3, 0] rfl) hP hS
            · have h67 := bi_z.mp g67
              have hr1 := hr0.trans (car_t (by omega) h38 h50 h67)
              refine lv_iconst (v := 0) hx hb d_A_carryOutEntry_70 (by decide) ?_
              have e6 : (cCar N S b z).2 = u5 := by subst hu5; first | ((try unfold cCar); (repeat (first | rw [if_pos g17] | rw [if_neg g17] | rw [if_pos h17] | rw [if_neg h17] | rw [if_pos k17] | rw [if_neg k17] | rw [if_pos g38] | rw [if_neg g38] | rw [if_pos h38] | rw [if_neg h38] | rw [if_pos g50] | rw [if_neg g50] | rw [if_pos h50] | rw [if_neg h50] | rw [if_pos g67] | rw [if_neg g67] | rw [if_pos h67] | rw [if_neg h67] | rw [hr1] | rw [if_neg (show ¬ true = false by decide)] | rw [if_pos (show false = false from rfl)] | dsimp only)); first | done | rfl) | rfl | (simp [cCar, bi, g17, h17, k17, g38, h38, g50, h50, g67, h67, hr1]; done)
              exact W.zret (v := 0) (ty := .boolean) hx hb hr (rfl) (fun t ht hW => ⟨⟨_, (), rfl, by subst hu5; first | ((try unfold cCar); (repeat (first | rw [if_pos g17] | rw [if_neg g17] | rw [if_pos h17] | rw [if_neg h17] | rw [if_pos k17] | rw [if_neg k17] | rw [if_pos g38] | rw [if_neg g38] | rw [if_pos h38] | rw [if_neg h38] | rw [if_pos g50] | rw [if_neg g50] | rw [if_pos h50] | rw [if_neg h50] | rw [if_pos g67] | rw [if_neg g67] | rw [if_pos h67] | rw [if_neg h67] | rw [hr1] | rw [if_neg (show ¬ true = false by decide)] | rw [if_pos (show false = false from rfl)] | dsimp only)); first | done | rfl) | rfl | (simp [cCar, bi, g17, h17, k17, g38, h38, g50, h50, g67, h67, hr1]; done), by show va_P D vwCl (wC cA q N S ((cCar N S b z).2)) t.heap; rw [ht, e6]; exact hP⟩, hS.F ht⟩) hS.2.2 d_A_carryOutEntry_71
  have e7 : nI 0 = 0 := by first | rfl | (simp [cCar, bi]; done) | omega
  exact L10 N 0 z ls s.heap [] (by omega) (by first | exact hr0.trans (car_n (by omega) h38) | exact hr0.trans (car_a (by omega) h38 h50) | exact hr0.trans (car_f (by omega) h38 h50 h67) | rfl) (by rw [e7]; exact lv_sub hl [2, 1, 0] rfl) hP hS
set_option maxHeartbeats 4000000 in
set_option maxRecDepth 100000 in
theorem c_DualParityArray_writeColumns (l : Launch) (D : va_G) (cA : ClassId) (q : Nat → Nat) (N S : Nat) (z : CS) (gN4 : 4 ≤ N) (gN : N ≤ 10) (gS1 : 1 ≤ S) (gS : S ≤ 16) (b f n : Nat) (v : Int32) (hb1 : b < S) (hfn : f + n ≤ N - 2) : Met l y_A_writeColumns w_A_writeColumns ({ frames := 4, cells := 0, slots := 0, locals := 97 }) (va_Pc [.ref (q 0), .int (nI b), .int (nI f), .int (nI n), .int v] (k_WT D [(cA, .int)] (wC cA q N S z))) (va_Qi (fun (r : Int32) (_ : Unit) => r = bi ((cWC N S b f n v z).1)) (fun _ t => va_P D vwCl (wC cA q N S ((cWC N S b f n v z).2)) t.heap) (k_A (wC cA q N S z))) 0 0 (k_A (wC cA q N S z)) := by
  refine Met.ofW (cc := b_A_writeColumns) (maxL := 6) (ret := (some .boolean)) (by decide) rfl ?_
  intro p e s m args below meth c s₁ B hml hv
  obtain ⟨rfl, hP, hK, hD0, hTb⟩ := hv
  have hx := B.exec
  have hb := B.bytes
  have hr := B.returns
  have hts0 := atoms_spec (ws := w_A_writeColumns) B.pre
  have hts : ∀ w ∈ lw_g, w.before _ s = true := fun w h => hts0 w (List.mem_cons_of_mem _ h)
  have hown : s.vm.findClass R_A = some m.cls := findClass_of_methodNamed B.named
  have hlocks := B.notSynchronized
  have hD := k_Dself hD0
  have hS : va_S (k_A (wC cA q N S z)) s.heap s.heap [] := va_S.rf
  have hl := lv_entry ([.ref (q 0), .int (nI b), .int (nI f), .int (nI n), .int v]) (n := 6) (Nat.le_of_ble_eq_true rfl)
  rw [lg_entry_eq]
  generalize (lg_sl ([.ref (q 0), .int (nI b), .int (nI f), .int (nI n), .int v]) ++ List.replicate (6 - (lg_sl ([.ref (q 0), .int (nI b), .int (nI f), .int (nI n), .int v])).length) Slot.unset).toArray = ls at hl ⊢
  have hl : lv_has ls 6 [(0, .ref (q 0)), (1, .int (nI b)), (2, .int (nI f)), (3, .int (nI n)), (4, .int v)] := hl
  refine lv_aload_n hx hb d_A_writeColumns_0 rfl (lv_at hl 0 rfl) ?_
  refine va_get (D := D) (ci := 3) (v := .int (nI (N - 2))) (C := R_A) (T := T_A) (N := 11) hx hb hts (in_A) hown hK hP 0 rfl rfl 1 (by decide) (hts _ m_f_A_17) (fun _ h9 => h9) rfl d_A_writeColumns_1 ?_
  refine lv_iload_n hx hb d_A_writeColumns_4 rfl (lv_at hl 3 rfl) ?_
  refine lv_isub hx hb d_A_writeColumns_5 ?_
  refine k_top (nI (N - 2 - n)) (pk_sub (a := N - 2) (b := n) (by omega)) ?_
  refine lv_istore (lv' := [(5, .int (nI (N - 2 - n))), (0, .ref (q 0)), (1, .int (nI b)), (2, .int (nI f)), (3, .int (nI n)), (4, .int v)]) hx hb d_A_writeColumns_6 hl (by decide) rfl (fun ls hl => ?_)
  refine lv_aload_n hx hb d_A_writeColumns_8 rfl (lv_at hl 1 rfl) ?_
  refine va_get (D := D) (ci := 3) (v := .ref (q 4)) (C := R_A) (T := T_A) (N := 11) hx hb hts (in_A) hown hK hP 0 rfl rfl 4 (by decide) (hts _ m_f_A_41) (fun _ h9 => h9) rfl d_A_writeColumns_9 ?_
  refine lv_aload_n hx hb d_A_writeColumns_12 rfl (lv_at hl 1 rfl) ?_
  refine va_get (D := D) (ci := 3) (v := .ref (q 1)) (C := R_A) (T := T_A) (N := 11) hx hb hts (in_A) hown hK hP 0 rfl rfl 2 (by decide) (hts _ m_f_A_25) (fun _ h9 => h9) rfl d_A_writeColumns_13 ?_
  refine lv_iload_n hx hb d_A_writeColumns_16 rfl (lv_at hl 2 rfl) ?_
  refine k_wrv (va_runV (C := R_S) (As := [.ref (q 1), .int (nI b)]) (rest := []) ⟨hx, hb, hml, hown, hts⟩ (c_Stripe_load l D cA (q 1) (q 2) (q 3) N S (cW z) (cP z) (q 4) (q 5) (cV z) (by omega) (by omega) (by omega) (by omega) b (by omega)) (k_cwV 2 hts m_code_S_load m_ini_S m_l_A_177 m_inst_S_load m_sel_S_load h_S_load rfl rfl ⟨Nat.le_of_ble_eq_true rfl, Nat.le_of_ble_eq_true rfl⟩) (k_pT hP hK hD hTb hS [1, 2, 3, 4, 5] (by decide) rfl 4 2 rfl rfl) rfl rfl hl.1 rfl (lv_room (Nat.le_of_ble_eq_true rfl)) d_A_writeColumns_17 ⟨Nat.zero_le _, Nat.zero_le _⟩) hS hD [1, 2, 3, 4, 5] rfl (fun u H1 locs _ hk hP1 hS => ?_)
  have hP : va_P D vwCl (wC cA q N S (sV z (ldV N S b (cW z) (cP z) (cV z)))) H1 := k_bk hP hD [1, 2, 3, 4, 5] [0, 6, 7] rfl (by decide) hk hP1 [0, 3, 4, 5, 6, 7, 1, 2] rfl
  have hD : va_D (k_A (wC cA q N S z)) (wC cA q N S (sV z (ldV N S b (cW z) (cP z) (cV z)))) := k_D hD rfl
  generalize H1 = H at hP hS ⊢
  refine lv_aload_n hx hb d_A_writeColumns_20 rfl (lv_at hl 1 rfl) ?_
  refine va_get (D := D) (ci := 3) (v := .ref (q 1)) (C := R_A) (T := T_A) (N := 11) hx hb hts (in_A) hown hK hP 0 rfl rfl 2 (by decide) (hts _ m_f_A_25) (fun _ h9 => h9) rfl d_A_writeColumns_21 ?_
  refine lv_iload_n hx hb d_A_writeColumns_24 rfl (lv_at hl 2 rfl) ?_
  refine k_roi (va_runV (C := R_D) (As := [.int (nI b)]) (rest := []) ⟨hx, hb, hml, hown, hts⟩ (c_Disks_allAvailable l D cA (q 1) (q 2) (q 3) N S (cW (sV z (ldV N S b (cW z) (cP z) (cV z)))) (cP (sV z (ldV N S b (cW z) (cP z) (cV z)))) (by omega) (by omega) (by omega) (by omega) (nI b)) (k_cwV 1 hts m_code_D_allAvailable m_ini_D m_l_A_142 m_inst_D_allAvailable m_sel_D_allAvailable h_D_allAvailable rfl rfl ⟨Nat.le_of_ble_eq_true rfl, Nat.le_of_ble_eq_true rfl⟩) (k_pR hP hK [1, 2, 3] rfl 1 0 rfl rfl) rfl rfl hl.1 rfl (lv_room (Nat.le_of_ble_eq_true rfl)) d_A_writeColumns_25 ⟨Nat.zero_le _, Nat.zero_le _⟩) ?_
  refine lv_if_ne (tgt := 62) hx hb d_A_writeColumns_28 rfl (fun g28 => ?_) (fun g28 => ?_)
  · have h28 := of_decide_eq_true (bi_nz.mp g28)
    refine lv_iload_n hx hb d_A_writeColumns_62 rfl (lv_at hl 4 rfl) ?_
    refine lv_iconst (v := 2) hx hb d_A_writeColumns_63 (by decide) ?_
    refine lv_iadd hx hb d_A_writeColumns_64 ?_
    refine k_top (nI (n + 2)) (nI_add n 2) ?_
    refine lv_iload hx hb d_A_writeColumns_65 (lv_at hl 0 rfl) ?_
    refine lv_icmp_ge (tgt := 96) hx hb d_A_writeColumns_67 rfl (fun g67 => ?_) (fun g67 => ?_)
    · have h67 : (N - 2 - n) ≤ (n + 2) := (nI_leI (a := N - 2 - n) (b := n + 2) (by omega) (by omega)).mp g67
      have k67 : ¬ (n + 2) < (N - 2 - n) := by omega
      have hr1 := cWC_b (f := f) (n := n) (v := v) h28 k67
      refine lv_aload_n hx hb d_A_writeColumns_96 rfl (lv_at hl 1 rfl) ?_
      refine lv_dup hx hb d_A_writeColumns_97 rfl ?_
      refine va_get (D := D) (ci := 3) (v := .int (cRc (sV z (ldV N S b (cW z) (cP z) (cV z))))) (C := R_A) (T := T_A) (N := 11) hx hb hts (in_A) hown hK hP 0 rfl rfl 9 (by decide) (hts _ m_f_A_69) (fun _ h9 => h9) rfl d_A_writeColumns_98 ?_
      refine lv_iload hx hb d_A_writeColumns_101 (lv_at hl 0 rfl) ?_
      refine lv_iadd hx hb d_A_writeColumns_103 ?_
      refine va_put (D := D) (ci := 3) (v := .int ((cRc (sV z (ldV N S b (cW z) (cP z) (cV z)))) + (nI (N - 2 - n)))) (ty := .int) (C := R_A) (T := T_A) (N := 11) hx hb hts (in_A) ty_A tyok_A nm_A hown hK hP hD hS 0 rfl rfl 9 (by decide) (hts _ m_f_A_69) (fun _ h9 => h9) rfl (by decide +kernel) rfl rfl (Nat.le_of_ble_eq_true rfl) d_A_writeColumns_104 (fun H locs hP hD hS => ?_)
      have hP : va_P D vwCl (wC cA q N S (sRc (sV z (ldV N S b (cW z) (cP z) (cV z))) ((cRc (sV z (ldV N S b (cW z) (cP z) (cV z)))) + (nI (N - 2 - n))))) H := hP
      have hD : va_D (k_A (wC cA q N S z)) (wC cA q N S (sRc (sV z (ldV N S b (cW z) (cP z) (cV z))) ((cRc (sV z (ldV N S b (cW z) (cP z) (cV z)))) + (nI (N - 2 - n))))) := hD
      refine lv_aload_n hx hb d_A_writeColumns_107 rfl (lv_at hl 1 rfl) ?_
      refine va_get (D := D) (ci := 3) (v := .ref (q 4)) (C := R_A) (T := T_A) (N := 11) hx hb hts (in_A) hown hK hP 0 rfl rfl 4 (by decide) (hts _ m_f_A_41) (fun _ h9 => h9) rfl d_A_writeColumns_108 ?_
      refine lv_iload_n hx hb d_A_writeColumns_111 rfl (lv_at hl 3 rfl) ?_
      refine lv_iload_n hx hb d_A_writeColumns_112 rfl (lv_at hl 4 rfl) ?_
      refine lv_iload hx hb d_A_writeColumns_113 (lv_at hl 5 rfl) ?_
      refine k_wrv (va_runV (C := R_S) (As := [.int (nI f), .int (nI n), .int v]) (rest := []) ⟨hx, hb, hml, hown, hts⟩ (c_Stripe_setColumns l D cA (q 4) (q 5) N (cV (sRc (sV z (ldV N S b (cW z) (cP z) (cV z))) ((cRc (sV z (ldV N S b (cW z) (cP z) (cV z)))) + (nI (N - 2 - n))))) (by omega) (by omega) f n v (by omega)) (k_cwV 3 hts m_code_S_setColumns m_ini_S m_l_A_192 m_inst_S_setColumns m_sel_S_setColumns h_S_setColumns rfl rfl ⟨Nat.le_of_ble_eq_true rfl, Nat.le_of_ble_eq_true rfl⟩) (k_pW hP hK hD [4, 5] (by decide) rfl 4 2 rfl rfl) rfl rfl hl.1 rfl (lv_room (Nat.le_of_ble_eq_true rfl)) d_A_writeColumns_115 ⟨Nat.zero_le _, Nat.zero_le _⟩) hS hD [4, 5] rfl (fun u H1 locs _ hk hP1 hS => ?_)
      have hP : va_P D vwCl (wC cA q N S (sV (sRc (sV z (ldV N S b (cW z) (cP z) (cV z))) ((cRc (sV z (ldV N S b (cW z) (cP z) (cV z)))) + (nI (N - 2 - n)))) (setC N (cV (sRc (sV z (ldV N S b (cW z) (cP z) (cV z))) ((cRc (sV z (ldV N S b (cW z) (cP z) (cV z)))) + (nI (N - 2 - n))))) f n v))) H1 := k_bk hP hD [4, 5] [0, 1, 2, 3, 6, 7] rfl (by decide) hk hP1 [0, 1, 2, 3, 6, 7, 4, 5] rfl
      have hD : va_D (k_A (wC cA q N S z)) (wC cA q N S (sV (sRc (sV z (ldV N S b (cW z) (cP z) (cV z))) ((cRc (sV z (ldV N S b (cW z) (cP z) (cV z)))) + (nI (N - 2 - n)))) (setC N (cV (sRc (sV z (ldV N S b (cW z) (cP z) (cV z))) ((cRc (sV z (ldV N S b (cW z) (cP z) (cV z)))) + (nI (N - 2 - n))))) f n v))) := k_D hD rfl
      generalize H1 = H at hP hS ⊢
      refine lv_aload_n hx hb d_A_writeColumns_118 rfl (lv_at hl 1 rfl) ?_
      refine lv_iload_n hx hb d_A_writeColumns_119 rfl (lv_at hl 2 rfl) ?_
      refine lv_iload_n hx hb d_A_writeColumns_120 rfl (lv_at hl 3 rfl) ?_
      refine lv_iload_n hx hb d_A_writeColumns_121 rfl (lv_at hl 4 rfl) ?_
      refine k_wri (va_runV (C := R_A) (As := [.int (nI b), .int (nI f), .int (nI n)]) (rest := []) ⟨hx, hb, hml, hown, hts⟩ (c_DualParityArray_logColumns l D cA q N S (sV (sRc (sV z (ldV N S b (cW z) (cP z) (cV z))) ((cRc (sV z (ldV N S b (cW z) (cP z) (cV z)))) + (nI (N - 2 - n)))) (setC N (cV (sRc (sV z (ldV N S b (cW z) (cP z) (cV z))) ((cRc (sV z (ldV N S b (cW z) (cP z) (cV z)))) + (nI (N - 2 - n))))) f n v)) (by omega) (by omega) (by omega) (by omega) b f n (by omega) (by omega)) (k_cwV 3 hts m_code_A_logColumns m_ini_A m_l_A_198 m_inst_A_logColumns m_sel_A_logColumns h_A_logColumns rfl rfl ⟨Nat.le_of_ble_eq_true rfl, Nat.le_of_ble_eq_true rfl⟩) (k_pW hP hK hD [0, 1, 2, 3, 4, 5, 6, 7] (by decide) rfl 0 3 rfl rfl) rfl rfl hl.1 rfl (lv_room (Nat.le_of_ble_eq_true rfl)) d_A_writeColumns_122 ⟨Nat.zero_le _, Nat.zero_le _⟩) hS hD [0, 1, 2, 3, 4, 5, 6, 7] rfl (fun r u H1 locs hp hk hP1 hS => ?_)
      subst hp
      obtain ⟨u1, hu1⟩ : ∃ w, w = (cLog N b f n (sV (sRc (sV z (ldV N S b (cW z) (cP z) (cV z))) ((cRc (sV z (ldV N S b (cW z) (cP z) (cV z)))) + (nI (N - 2 - n)))) (setC N (cV (sRc (sV z (ldV N S b (cW z) (cP z) (cV z))) ((cRc (sV z (ldV N S b (cW z) (cP z) (cV z)))) + (nI (N - 2 - n))))) f n v))).2 := ⟨_, rfl⟩
      have hP : va_P D vwCl (wC cA q N S u1) H1 := by rw [hu1]; exact hP1
      have hD : va_D (k_A (wC cA q N S z)) (wC cA q N S u1) := k_D hD rfl
      generalize H1 = H at hP hS ⊢
      refine lv_if_eq (tgt := 139) hx hb d_A_writeColumns_125 rfl (fun g125 => ?_) (fun g125 => ?_)
      · have h125 := bi_z.mp g125
        refine lv_iconst (v := 0) hx hb d_A_writeColumns_139 (by decide) ?_
        have e2 : (cWC N S b f n v z).2 = u1 := by subst hu1; first | (skip; (repeat (first | rw [if_pos g28] | rw [if_neg g28] | rw [if_pos h28] | rw [if_neg h28] | rw [if_pos g67] | rw [if_neg g67] | rw [if_pos h67] | rw [if_neg h67] | rw [if_pos k67] | rw [if_neg k67] | rw [hr1] | rw [if_pos g125] | rw [if_neg g125] | rw [if_pos h125] | rw [if_neg h125] | rw [if_neg (show ¬ true = false by decide)] | rw [if_pos (show false = false from rfl)] | dsimp only)); first | done | rfl) | rfl | (simp [bi, g28, h28, g67, h67, k67, hr1, g125, h125]; done)
        exact W.zret (v := 0) (ty := .boolean) hx hb hr (rfl) (fun t ht hW => ⟨⟨_, (), rfl, by subst hu1; first | (skip; (repeat (first | rw [if_pos g28] | rw [if_neg g28] | rw [if_pos h28] | rw [if_neg h28] | rw [if_pos g67] | rw [if_neg g67] | rw [if_pos h67] | rw [if_neg h67] | rw [if_pos k67] | rw [if_neg k67] | rw [hr1] | rw [if_pos g125] | rw [if_neg g125] | rw [if_pos h125] | rw [if_neg h125] | rw [if_neg (show ¬ true = false by decide)] | rw [if_pos (show false = false from rfl)] | dsimp only)); first | done | rfl) | rfl | (simp [bi, g28, h28, g67, h67, k67, hr1, g125, h125]; done), by show va_P D vwCl (wC cA q N S ((cWC N S b f n v z).2)) t.heap; rw [ht, e2]; exact hP⟩, hS.F ht⟩) hS.2.2 d_A_writeColumns_140
      · have h125 := bi_nz.mp g125
        refine lv_aload_n hx hb d_A_writeColumns_128 rfl (lv_at hl 1 rfl) ?_
        refine k_wri (va_runV (C := R_A) (As := []) (rest := []) ⟨hx, hb, hml, hown, hts⟩ (c_DualParityArray_carryOutEntry l D cA q N S u1 (by omega) (by omega) (by omega) (by omega) b (by omega) (by subst hu1; exact log_ls h125)) (k_cwV 0 hts m_code_A_carryOutEntry m_ini_A m_l_A_174 m_inst_A_carryOutEntry m_sel_A_carryOutEntry h_A_carryOutEntry rfl rfl ⟨Nat.le_of_ble_eq_true rfl, Nat.le_of_ble_eq_true rfl⟩) (k_pW hP hK hD [0, 1, 2, 3, 4, 5, 6, 7] (by decide) rfl 0 3 rfl rfl) rfl rfl hl.1 rfl (lv_room (Nat.le_of_ble_eq_true rfl)) d_A_writeColumns_129 ⟨Nat.zero_le _, Nat.zero_le _⟩) hS hD [0, 1, 2, 3, 4, 5, 6, 7] rfl (fun r u H1 locs hp hk hP1 hS => ?_)
        subst hp
        obtain ⟨u3, hu3⟩ : ∃ w, w = (cCar N S b u1).2 := ⟨_, rfl⟩
        have hP : va_P D vwCl (wC cA q N S u3) H1 := by rw [hu3]; exact hP1
        have hD : va_D (k_A (wC cA q N S z)) (wC cA q N S u3) := k_D hD rfl
        generalize H1 = H at hP hS ⊢
        refine lv_if_eq (tgt := 139) hx hb d_A_writeColumns_132 rfl (fun g132 => ?_) (fun g132 => ?_)
        · have h132 := bi_z.mp g132
          refine lv_iconst (v := 0) hx hb d_A_writeColumns_139 (by decide) ?_
          have e4 : (cWC N S b f n v z).2 = u3 := by subst hu3; subst hu1; first | (skip; (repeat (first | rw [if_pos g28] | rw [if_neg g28] | rw [if_pos h28] | rw [if_neg h28] | rw [if_pos g67] | rw [if_neg g67] | rw [if_pos h67] | rw [if_neg h67] | rw [if_pos k67] | rw [if_neg k67] | rw [hr1] | rw [if_pos g125] | rw [if_neg g125] | rw [if_pos h125] | rw [if_neg h125] | rw [if_pos g132] | rw [if_neg g132] | rw [if_pos h132] | rw [if_neg h132] | rw [if_neg (show ¬ true = false by decide)] | rw [if_pos (show false = false from rfl)] | dsimp only)); first | done | rfl) | rfl | (simp [bi, g28, h28, g67, h67, k67, hr1, g125, h125, g132, h132]; done)
          exact W.zret (v := 0) (ty := .boolean) hx hb hr (rfl) (fun t ht hW => ⟨⟨_, (), rfl, by subst hu3; subst hu1; first | (skip; (repeat (first | rw [if_pos g28] | rw [if_neg g28] | rw [if_pos h28] | rw [if_neg h28] | rw [if_pos g67] | rw [if_neg g67] | rw [if_pos h67] | rw [if_neg h67] | rw [if_pos k67] | rw [if_neg k67] | rw [hr1] | rw [if_pos g125] | rw [if_neg g125] | rw [if_pos h125] | rw [if_neg h125] | rw [if_pos g132] | rw [if_neg g132] | rw [if_pos h132] | rw [if_neg h132] | rw [if_neg (show ¬ true = false by decide)] | rw [if_pos (show false = false from rfl)] | dsimp only)); first | done | rfl) | rfl | (simp [bi, g28, h28, g67, h67, k67, hr1, g125, h125, g132, h132]; done), by show va_P D vwCl (wC cA q N S ((cWC N S b f n v z).2)) t.heap; rw [ht, e4]; exact hP⟩, hS.F ht⟩) hS.2.2 d_A_writeColumns_140
        · have h132 := bi_nz.mp g132
          refine lv_iconst (v := 1) hx hb d_A_writeColumns_135 (by decide) ?_
          refine lv_goto hx hb d_A_writeColumns_136 rfl ?_
          have e5 : (cWC N S b f n v z).2 = u3 := by subst hu3; subst hu1; first | (skip; (repeat (first | rw [if_pos g28] | rw [if_neg g28] | rw [if_pos h28] | rw [if_neg h28] | rw [if_pos g67] | rw [if_neg g67] | rw [if_pos h67] | rw [if_neg h67] | rw [if_pos k67] | rw [if_neg k67] | rw [hr1] | rw [if_pos g125] | rw [if_neg g125] | rw [if_pos h125] | rw [if_neg h125] | rw [if_pos g132] | rw [if_neg g132] | rw [if_pos h132] | rw [if_neg h132] | rw [if_neg (show ¬ true = false by decide)] | rw [if_pos (show false = false from rfl)] | dsimp only)); first | done | rfl) | rfl | (simp [bi, g28, h28, g67, h67, k67, hr1, g125, h125, g132, h132]; done)
          exact W.zret (v := 1) (ty := .boolean) hx hb hr (rfl) (fun t ht hW => ⟨⟨_, (), rfl, by subst hu3; subst hu1; first | (skip; (repeat (first | rw [if_pos g28] | rw [if_neg g28] | rw [if_pos h28] | rw [if_neg h28] | rw [if_pos g67] | rw [if_neg g67] | rw [if_pos h67] | rw [if_neg h67] | rw [if_pos k67] | rw [if_neg k67] | rw [hr1] | rw [if_pos g125] | rw [if_neg g125] | rw [if_pos h125] | rw [if_neg h125] | rw [if_pos g132] | rw [if_neg g132] | rw [if_pos h132] | rw [if_neg h132] | rw [if_neg (show ¬ true = false by decide)] | rw [if_pos (show false = false from rfl)] | dsimp only)); first | done | rfl) | rfl | (simp [bi, g28, h28, g67, h67, k67, hr1, g125, h125, g132, h132]; done), by show va_P D vwCl (wC cA q N S ((cWC N S b f n v z).2)) t.heap; rw [ht, e5]; exact hP⟩, hS.F ht⟩) hS.2.2 d_A_writeColumns_140
    · have h67 : ¬ (N - 2 - n) ≤ (n + 2) := fun z => g67 ((nI_leI (a := N - 2 - n) (b := n + 2) (by omega) (by omega)).mpr z)
      have k67 : (n + 2) < (N - 2 - n) := by omega
      have hr1 := cWC_a (f := f) (n := n) (v := v) h28 k67
      refine lv_aload_n hx hb d_A_writeColumns_70 rfl (lv_at hl 1 rfl) ?_
      refine lv_dup hx hb d_A_writeColumns_71 rfl ?_
      refine va_get (D := D) (ci := 3) (v := .int (cRc (sV z (ldV N S b (cW z) (cP z) (cV z))))) (C := R_A) (T := T_A) (N := 11) hx hb hts (in_A) hown hK hP 0 rfl rfl 9 (by decide) (hts _ m_f_A_69) (fun _ h9 => h9) rfl d_A_writeColumns_72 ?_
      refine lv_iload_n hx hb d_A_writeColumns_75 rfl (lv_at hl 4 rfl) ?_
      refine lv_iconst (v := 2) hx hb d_A_writeColumns_76 (by decide) ?_
      refine lv_iadd hx hb d_A_writeColumns_77 ?_
      refine k_top (nI (n + 2)) (nI_add n 2) ?_
      refine lv_iadd hx hb d_A_writeColumns_78 ?_
      refine va_put (D := D) (ci := 3) (v := .int ((cRc (sV z (ldV N S b (cW z) (cP z) (cV z)))) + (nI (n + 2)))) (ty := .int) (C := R_A) (T := T_A) (N := 11) hx hb hts (in_A) ty_A tyok_A nm_A hown hK hP hD hS 0 rfl rfl 9 (by decide) (hts _ m_f_A_69) (fun _ h9 => h9) rfl (by decide +kernel) rfl rfl (Nat.le_of_ble_eq_true rfl) d_A_writeColumns_79 (fun H locs hP hD hS => ?_)
      have hP : va_P D vwCl (wC cA q N S (sRc (sV z (ldV N S b (cW z) (cP z) (cV z))) ((cRc (sV z (ldV N S b (cW z) (cP z) (cV z)))) + (nI (n + 2))))) H := hP
      have hD : va_D (k_A (wC cA q N S z)) (wC cA q N S (sRc (sV z (ldV N S b (cW z) (cP z) (cV z))) ((cRc (sV z (ldV N S b (cW z) (cP z) (cV z)))) + (nI (n + 2))))) := hD
      refine lv_aload_n hx hb d_A_writeColumns_82 rfl (lv_at hl 1 rfl) ?_
      refine va_get (D := D) (ci := 3) (v := .ref (q 4)) (C := R_A) (T := T_A) (N := 11) hx hb hts (in_A) hown hK hP 0 rfl rfl 4 (by decide) (hts _ m_f_A_41) (fun _ h9 => h9) rfl d_A_writeColumns_83 ?_
      refine lv_iload_n hx hb d_A_writeColumns_86 rfl (lv_at hl 3 rfl) ?_
      refine lv_iload_n hx hb d_A_writeColumns_87 rfl (lv_at hl 4 rfl) ?_
      refine lv_iload hx hb d_A_writeColumns_88 (lv_at hl 5 rfl) ?_
      refine k_wrv (va_runV (C := R_S) (As := [.int (nI f), .int (nI n), .int v]) (rest := []) ⟨hx, hb, hml, hown, hts⟩ (c_Stripe_changeColumns l D cA (q 4) (q 5) N (cV (sRc (sV z (ldV N S b (cW z) (cP z) (cV z))) ((cRc (sV z (ldV N S b (cW z) (cP z) (cV z)))) + (nI (n + 2))))) (by omega) (by omega) f n v (by omega)) (k_cwV 3 hts m_code_S_changeColumns m_ini_S m_l_A_195 m_inst_S_changeColumns m_sel_S_changeColumns h_S_changeColumns rfl rfl ⟨Nat.le_of_ble_eq_true rfl, Nat.le_of_ble_eq_true rfl⟩) (k_pW hP hK hD [4, 5] (by decide) rfl 4 2 rfl rfl) rfl rfl hl.1 rfl (lv_room (Nat.le_of_ble_eq_true rfl)) d_A_writeColumns_90 ⟨Nat.zero_le _, Nat.zero_le _⟩) hS hD [4, 5] rfl (fun u H1 locs _ hk hP1 hS => ?_)
      have hP : va_P D vwCl (wC cA q N S (sV (sRc (sV z (ldV N S b (cW z) (cP z) (cV z))) ((cRc (sV z (ldV N S b (cW z) (cP z) (cV z)))) + (nI (n + 2)))) (chC N (cV (sRc (sV z (ldV N S b (cW z) (cP z) (cV z))) ((cRc (sV z (ldV N S b (cW z) (cP z) (cV z)))) + (nI (n + 2))))) f v n))) H1 := k_bk hP hD [4, 5] [0, 1, 2, 3, 6, 7] rfl (by decide) hk hP1 [0, 1, 2, 3, 6, 7, 4, 5] rfl
      have hD : va_D (k_A (wC cA q N S z)) (wC cA q N S (sV (sRc (sV z (ldV N S b (cW z) (cP z) (cV z))) ((cRc (sV z (ldV N S b (cW z) (cP z) (cV z)))) + (nI (n + 2)))) (chC N (cV (sRc (sV z (ldV N S b (cW z) (cP z) (cV z))) ((cRc (sV z (ldV N S b (cW z) (cP z) (cV z)))) + (nI (n + 2))))) f v n))) := k_D hD rfl
      generalize H1 = H at hP hS ⊢
      refine lv_goto hx hb d_A_writeColumns_93 rfl ?_
      refine lv_aload_n hx hb d_A_writeColumns_118 rfl (lv_at hl 1 rfl) ?_
      refine lv_iload_n hx hb d_A_writeColumns_119 rfl (lv_at hl 2 rfl) ?_
      refine lv_iload_n hx hb d_A_writeColumns_120 rfl (lv_at hl 3 rfl) ?_
      refine lv_iload_n hx hb d_A_writeColumns_121 rfl (lv_at hl 4 rfl) ?_
      refine k_wri (va_runV (C := R_A) (As := [.int (nI b), .int (nI f), .int (nI n)]) (rest := []) ⟨hx, hb, hml, hown, hts⟩ (c_DualParityArray_logColumns l D cA q N S (sV (sRc (sV z (ldV N S b (cW z) (cP z) (cV z))) ((cRc (sV z (ldV N S b (cW z) (cP z) (cV z)))) + (nI (n + 2)))) (chC N (cV (sRc (sV z (ldV N S b (cW z) (cP z) (cV z))) ((cRc (sV z (ldV N S b (cW z) (cP z) (cV z)))) + (nI (n + 2))))) f v n)) (by omega) (by omega) (by omega) (by omega) b f n (by omega) (by omega)) (k_cwV 3 hts m_code_A_logColumns m_ini_A m_l_A_198 m_inst_A_logColumns m_sel_A_logColumns h_A_logColumns rfl rfl ⟨Nat.le_of_ble_eq_true rfl, Nat.le_of_ble_eq_true rfl⟩) (k_pW hP hK hD [0, 1, 2, 3, 4, 5, 6, 7] (by decide) rfl 0 3 rfl rfl) rfl rfl hl.1 rfl (lv_room (Nat.le_of_ble_eq_true rfl)) d_A_writeColumns_122 ⟨Nat.zero_le _, Nat.zero_le _⟩) hS hD [0, 1, 2, 3, 4, 5, 6, 7] rfl (fun r u H1 locs hp hk hP1 hS => ?_)
      subst hp
      obtain ⟨u6, hu6⟩ : ∃ w, w = (cLog N b f n (sV (sRc (sV z (ldV N S b (cW z) (cP z) (cV z))) ((cRc (sV z (ldV N S b (cW z) (cP z) (cV z)))) + (nI (n + 2)))) (chC N (cV (sRc (sV z (ldV N S b (cW z) (cP z) (cV z))) ((cRc (sV z (ldV N S b (cW z) (cP z) (cV z)))) + (nI (n + 2))))) f v n))).2 := ⟨_, rfl⟩
      have hP : va_P D vwCl (wC cA q N S u6) H1 := by rw [hu6]; exact hP1
      have hD : va_D (k_A (wC cA q N S z)) (wC cA q N S u6) := k_D hD rfl
      generalize H1 = H at hP hS ⊢
      refine lv_if_eq (tgt := 139) hx hb d_A_writeColumns_125 rfl (fun g125 => ?_) (fun g125 => ?_)
      · have h125 := bi_z.mp g125
        refine lv_iconst (v := 0) hx hb d_A_writeColumns_139 (by decide) ?_
        have e7 : (cWC N S b f n v z).2 = u6 := by subst hu6; first | (skip; (repeat (first | rw [if_pos g28] | rw [if_neg g28] | rw [if_pos h28] | rw [if_neg h28] | rw [if_pos g67] | rw [if_neg g67] | rw [if_pos h67] | rw [if_neg h67] | rw [if_pos k67] | rw [if_neg k67] | rw [hr1] | rw [if_pos g125] | rw [if_neg g125] | rw [if_pos h125] | rw [if_neg h125] | rw [if_neg (show ¬ true = false by decide)] | rw [if_pos (show false = false from rfl)] | dsimp only)); first | done | rfl) | rfl | (simp [bi, g28, h28, g67, h67, k67, hr1, g125, h125]; done)
        exact W.zret (v := 0) (ty := .boolean) hx hb hr (rfl) (fun t ht hW => ⟨⟨_, (), rfl, by subst hu6; first | (skip; (repeat (first | rw [if_pos g28] | rw [if_neg g28] | rw [if_pos h28] | rw [if_neg h28] | rw [if_pos g67] | rw [if_neg g67] | rw [if_pos h67] | rw [if_neg h67] | rw [if_pos k67] | rw [if_neg k67] | rw [hr1] | rw [if_pos g125] | rw [if_neg g125] | rw [if_pos h125] | rw [if_neg h125] | rw [if_neg (show ¬ true = false by decide)] | rw [if_pos (show false = false from rfl)] | dsimp only)); first | done | rfl) | rfl | (simp [bi, g28, h28, g67, h67, k67, hr1, g125, h125]; done), by show va_P D vwCl (wC cA q N S ((cWC N S b f n v z).2)) t.heap; rw [ht, e7]; exact hP⟩, hS.F ht⟩) hS.2.2 d_A_writeColumns_140
      · have h125 := bi_nz.mp g125
        refine lv_aload_n hx hb d_A_writeColumns_128 rfl (lv_at hl 1 rfl) ?_
        refine k_wri (va_runV (C := R_A) (As := []) (rest := []) ⟨hx, hb, hml, hown, hts⟩ (c_DualParityArray_carryOutEntry l D cA q N S u6 (by omega) (by omega) (by omega) (by omega) b (by omega) (by subst hu6; exact log_ls h125)) (k_cwV 0 hts m_code_A_carryOutEntry m_ini_A m_l_A_174 m_inst_A_carryOutEntry m_sel_A_carryOutEntry h_A_carryOutEntry rfl rfl ⟨Nat.le_of_ble_eq_true rfl, Nat.le_of_ble_eq_true rfl⟩) (k_pW hP hK hD [0, 1, 2, 3, 4, 5, 6, 7] (by decide) rfl 0 3 rfl rfl) rfl rfl hl.1 rfl (lv_room (Nat.le_of_ble_eq_true rfl)) d_A_writeColumns_129 ⟨Nat.zero_le _, Nat.zero_le _⟩) hS hD [0, 1, 2, 3, 4, 5, 6, 7] rfl (fun r u H1 locs hp hk hP1 hS => ?_)
        subst hp
        obtain ⟨u8, hu8⟩ : ∃ w, w = (cCar N S b u6).2 := ⟨_, rfl⟩
        have hP : va_P D vwCl (wC cA q N S u8) H1 := by rw [hu8]; exact hP1
        have hD : va_D (k_A (wC cA q N S z)) (wC cA q N S u8) := k_D hD rfl
        generalize H1 = H at hP hS ⊢
        refine lv_if_eq (tgt := 139) hx hb d_A_writeColumns_132 rfl (fun g132 => ?_) (fun g132 => ?_)
        · have h132 := bi_z.mp g132
          refine lv_iconst (v := 0) hx hb d_A_writeColumns_139 (by decide) ?_
          have e9 : (cWC N S b f n v z).2 = u8 := by subst hu8; subst hu6; first | (skip; (repeat (first | rw [if_pos g28] | rw [if_neg g28] | rw [if_pos h28] | rw [if_neg h28] | rw [if_pos g67] | rw [if_neg g67] | rw [if_pos h67] | rw [if_neg h67] | rw [if_pos k67] | rw [if_neg k67] | rw [hr1] | rw [if_pos g125] | rw [if_neg g125] | rw [if_pos h125] | rw [if_neg h125] | rw [if_pos g132] | rw [if_neg g132] | rw [if_pos h132] | rw [if_neg h132] | rw [if_neg (show ¬ true = false by decide)] | rw [if_pos (show false = false from rfl)] | dsimp only)); first | done | rfl) | rfl | (simp [bi, g28, h28, g67, h67, k67, hr1, g125, h125, g132, h132]; done)
          exact W.zret (v := 0) (ty := .boolean) hx hb hr (rfl) (fun t ht hW => ⟨⟨_, (), rfl, by subst hu8; subst hu6; first | (skip; (repeat (first | rw [if_pos g28] | rw [if_neg g28] | rw [if_pos h28] | rw [if_neg h28] | rw [if_pos g67] | rw [if_neg g67] | rw [if_pos h67] | rw [if_neg h67] | rw [if_pos k67] | rw [if_neg k67] | rw [hr1] | rw [if_pos g125] | rw [if_neg g125] | rw [if_pos h125] | rw [if_neg h125] | rw [if_pos g132] | rw [if_neg g132] | rw [if_pos h132] | rw [if_neg h132] | rw [if_neg (show ¬ true = false by decide)] | rw [if_pos (show false = false from rfl)] | dsimp only)); first | done | rfl) | rfl | (simp [bi, g28, h28, g67, h67, k67, hr1, g125, h125, g132, h132]; done), by show va_P D vwCl (wC cA q N S ((cWC N S b f n v z).2)) t.heap; rw [ht, e9]; exact hP⟩, hS.F ht⟩) hS.2.2 d_A_writeColumns_140
        · have h132 := bi_nz.mp g132
          refine lv_iconst (v := 1) hx hb d_A_writeColumns_135 (by decide) ?_
          refine lv_goto hx hb d_A_writeColumns_136 rfl ?_
          have e10 : (cWC N S b f n v z).2 = u8 := by subst hu8; subst hu6; first | (skip; (repeat (first | rw [if_pos g28] | rw [if_neg g28] | rw [if_pos h28] | rw [if_neg h28] | rw [if_pos g67] | rw [if_neg g67] | rw [if_pos h67] | rw [if_neg h67] | rw [if_pos k67] | rw [if_neg k67] | rw [hr1] | rw [if_pos g125] | rw [if_neg g125] | rw [if_pos h125] | rw [if_neg h125] | rw [if_pos g132] | rw [if_neg g132] | rw [if_pos h132] | rw [if_neg h132] | rw [if_neg (show ¬ true = false by decide)] | rw [if_pos (show false = false from rfl)] | dsimp only)); first | done | rfl) | rfl | (simp [bi, g28, h28, g67, h67, k67, hr1, g125, h125, g132, h132]; done)
          exact W.zret (v := 1) (ty := .boolean) hx hb hr (rfl) (fun t ht hW => ⟨⟨_, (), rfl, by subst hu8; subst hu6; first | (skip; (repeat (first | rw [if_pos g28] | rw [if_neg g28] | rw [if_pos h28] | rw [if_neg h28] | rw [if_pos g67] | rw [if_neg g67] | rw [if_pos h67] | rw [if_neg h67] | rw [if_pos k67] | rw [if_neg k67] | rw [hr1] | rw [if_pos g125] | rw [if_neg g125] | rw [if_pos h125] | rw [if_neg h125] | rw [if_pos g132] | rw [if_neg g132] | rw [if_pos h132] | rw [if_neg h132] | rw [if_neg (show ¬ true = false by decide)] | rw [if_pos (show false = false from rfl)] | dsimp only)); first | done | rfl) | rfl | (simp [bi, g28, h28, g67, h67, k67, hr1, g125, h125, g132, h132]; done), by show va_P D vwCl (wC cA q N S ((cWC N S b f n v z).2)) t.heap; rw [ht, e10]; exact hP⟩, hS.F ht⟩) hS.2.2 d_A_writeColumns_140
  · have h28 := of_decide_eq_false (bi_z.mp g28)
    have hr1 := cWC_c (f := f) (n := n) (v := v) h28
    refine lv_aload_n hx hb d_A_writeColumns_31 rfl (lv_at hl 1 rfl) ?_
    refine lv_dup hx hb d_A_writeColumns_32 rfl ?_
    refine va_get (D := D) (ci := 3) (v := .int (cRc (sV z (ldV N S b (cW z) (cP z) (cV z))))) (C := R_A) (T := T_A) (N := 11) hx hb hts (in_A) hown hK hP 0 rfl rfl 9 (by decide) (hts _ m_f_A_69) (fun _ h9 => h9) rfl d_A_writeColumns_33 ?_
    refine lv_aload_n hx hb d_A_writeColumns_36 rfl (lv_at hl 1 rfl) ?_
    refine va_get (D := D) (ci := 3) (v := .ref (q 1)) (C := R_A) (T := T_A) (N := 11) hx hb hts (in_A) hown hK hP 0 rfl rfl 2 (by decide) (hts _ m_f_A_25) (fun _ h9 => h9) rfl d_A_writeColumns_37 ?_
    refine lv_iload_n hx hb d_A_writeColumns_40 rfl (lv_at hl 2 rfl) ?_
    refine k_roi (va_runV (C := R_D) (As := [.int (nI b)]) (rest := [.int (cRc (sV z (ldV N S b (cW z) (cP z) (cV z)))), .ref (q 0)]) ⟨hx, hb, hml, hown, hts⟩ (c_Disks_countAvailable l D cA (q 1) (q 2) (q 3) N S (cW (sV z (ldV N S b (cW z) (cP z) (cV z)))) (cP (sV z (ldV N S b (cW z) (cP z) (cV z)))) (by omega) (by omega) (by omega) (by omega) (nI b)) (k_cwV 1 hts m_code_D_countAvailable m_ini_D m_l_A_189 m_inst_D_countAvailable m_sel_D_countAvailable h_D_countAvailable rfl rfl ⟨Nat.le_of_ble_eq_true rfl, Nat.le_of_ble_eq_true rfl⟩) (k_pR hP hK [1, 2, 3] rfl 1 0 rfl rfl) rfl rfl hl.1 rfl (lv_room (Nat.le_of_ble_eq_true rfl)) d_A_writeColumns_41 ⟨Nat.zero_le _, Nat.zero_le _⟩) ?_
    have f11 : cntA (cP (sV z (ldV N S b (cW z) (cP z) (cV z)))) (nI b) N ≤ N := cntA_le _ _ _
    refine lv_iadd hx hb d_A_writeColumns_44 ?_
    refine va_put (D := D) (ci := 3) (v := .int ((cRc (sV z (ldV N S b (cW z) (cP z) (cV z)))) + (nI (cntA (cP (sV z (ldV N S b (cW z) (cP z) (cV z)))) (nI b) N)))) (ty := .int) (C := R_A) (T := T_A) (N := 11) hx hb hts (in_A) ty_A tyok_A nm_A hown hK hP hD hS 0 rfl rfl 9 (by decide) (hts _ m_f_A_69) (fun _ h9 => h9) rfl (by decide +kernel) rfl rfl (Nat.le_of_ble_eq_true rfl) d_A_writeColumns_45 (fun H locs hP hD hS => ?_)
    have hP : va_P D vwCl (wC cA q N S (sRc (sV z (ldV N S b (cW z) (cP z) (cV z))) ((cRc (sV z (ldV N S b (cW z) (cP z) (cV z)))) + (nI (cntA (cP (sV z (ldV N S b (cW z) (cP z) (cV z)))) (nI b) N))))) H := hP
    have hD : va_D (k_A (wC cA q N S z)) (wC cA q N S (sRc (sV z (ldV N S b (cW z) (cP z) (cV z))) ((cRc (sV z (ldV N S b (cW z) (cP z) (cV z)))) + (nI (cntA (cP (sV z (ldV N S b (cW z) (cP z) (cV z)))) (nI b) N))))) := hD
    refine lv_aload_n hx hb d_A_writeColumns_48 rfl (lv_at hl 1 rfl) ?_
    refine va_get (D := D) (ci := 3) (v := .ref (q 4)) (C := R_A) (T := T_A) (N := 11) hx hb hts (in_A) hown hK hP 0 rfl rfl 4 (by decide) (hts _ m_f_A_41) (fun _ h9 => h9) rfl d_A_writeColumns_49 ?_
    refine lv_iload_n hx hb d_A_writeColumns_52 rfl (lv_at hl 3 rfl) ?_
    refine lv_iload_n hx hb d_A_writeColumns_53 rfl (lv_at hl 4 rfl) ?_
    refine lv_iload hx hb d_A_writeColumns_54 (lv_at hl 5 rfl) ?_
    refine k_wrv (va_runV (C := R_S) (As := [.int (nI f), .int (nI n), .int v]) (rest := []) ⟨hx, hb, hml, hown, hts⟩ (c_Stripe_setColumns l D cA (q 4) (q 5) N (cV (sRc (sV z (ldV N S b (cW z) (cP z) (cV z))) ((cRc (sV z (ldV N S b (cW z) (cP z) (cV z)))) + (nI (cntA (cP (sV z (ldV N S b (cW z) (cP z) (cV z)))) (nI b) N))))) (by omega) (by omega) f n v (by omega)) (k_cwV 3 hts m_code_S_setColumns m_ini_S m_l_A_192 m_inst_S_setColumns m_sel_S_setColumns h_S_setColumns rfl rfl ⟨Nat.le_of_ble_eq_true rfl, Nat.le_of_ble_eq_true rfl⟩) (k_pW hP hK hD [4, 5] (by decide) rfl 4 2 rfl rfl) rfl rfl hl.1 rfl (lv_room (Nat.le_of_ble_eq_true rfl)) d_A_writeColumns_56 ⟨Nat.zero_le _, Nat.zero_le _⟩) hS hD [4, 5] rfl (fun u H1 locs _ hk hP1 hS => ?_)
    have hP : va_P D vwCl (wC cA q N S (sV (sRc (sV z (ldV N S b (cW z) (cP z) (cV z))) ((cRc (sV z (ldV N S b (cW z) (cP z) (cV z)))) + (nI (cntA (cP (sV z (ldV N S b (cW z) (cP z) (cV z)))) (nI b) N)))) (setC N (cV (sRc (sV z (ldV N S b (cW z) (cP z) (cV z))) ((cRc (sV z (ldV N S b (cW z) (cP z) (cV z)))) + (nI (cntA (cP (sV z (ldV N S b (cW z) (cP z) (cV z)))) (nI b) N))))) f n v))) H1 := k_bk hP hD [4, 5] [0, 1, 2, 3, 6, 7] rfl (by decide) hk hP1 [0, 1, 2, 3, 6, 7, 4, 5] rfl
    have hD : va_D (k_A (wC cA q N S z)) (wC cA q N S (sV (sRc (sV z (ldV N S b (cW z) (cP z) (cV z))) ((cRc (sV z (ldV N S b (cW z) (cP z) (cV z)))) + (nI (cntA (cP (sV z (ldV N S b (cW z) (cP z) (cV z)))) (nI b) N)))) (setC N (cV (sRc (sV z (ldV N S b (cW z) (cP z) (cV z))) ((cRc (sV z (ldV N S b (cW z) (cP z) (cV z)))) + (nI (cntA (cP (sV z (ldV N S b (cW z) (cP z) (cV z)))) (nI b) N))))) f n v))) := k_D hD rfl
    generalize H1 = H at hP hS ⊢
    refine lv_goto hx hb d_A_writeColumns_59 rfl ?_
    refine lv_aload_n hx hb d_A_writeColumns_118 rfl (lv_at hl 1 rfl) ?_
    refine lv_iload_n hx hb d_A_writeColumns_119 rfl (lv_at hl 2 rfl) ?_
    refine lv_iload_n hx hb d_A_writeColumns_120 rfl (lv_at hl 3 rfl) ?_
    refine lv_iload_n hx hb d_A_writeColumns_121 rfl (lv_at hl 4 rfl) ?_
    refine k_wri (va_runV (C := R_A) (As := [.int (nI b), .int (nI f), .int (nI n)]) (rest := []) ⟨hx, hb, hml, hown, hts⟩ (c_DualParityArray_logColumns l D cA q N S (sV (sRc (sV z (ldV N S b (cW z) (cP z) (cV z))) ((cRc (sV z (ldV N S b (cW z) (cP z) (cV z)))) + (nI (cntA (cP (sV z (ldV N S b (cW z) (cP z) (cV z)))) (nI b) N)))) (setC N (cV (sRc (sV z (ldV N S b (cW z) (cP z) (cV z))) ((cRc (sV z (ldV N S b (cW z) (cP z) (cV z)))) + (nI (cntA (cP (sV z (ldV N S b (cW z) (cP z) (cV z)))) (nI b) N))))) f n v)) (by omega) (by omega) (by omega) (by omega) b f n (by omega) (by omega)) (k_cwV 3 hts m_code_A_logColumns m_ini_A m_l_A_198 m_inst_A_logColumns m_sel_A_logColumns h_A_logColumns rfl rfl ⟨Nat.le_of_ble_eq_true rfl, Nat.le_of_ble_eq_true rfl⟩) (k_pW hP hK hD [0, 1, 2, 3, 4, 5, 6, 7] (by decide) rfl 0 3 rfl rfl) rfl rfl hl.1 rfl (lv_room (Nat.le_of_ble_eq_true rfl)) d_A_writeColumns_122 ⟨Nat.zero_le _, Nat.zero_le _⟩) hS hD [0, 1, 2, 3, 4, 5, 6, 7] rfl (fun r u H1 locs hp hk hP1 hS => ?_)
    subst hp
    obtain ⟨u12, hu12⟩ : ∃ w, w = (cLog N b f n (sV (sRc (sV z (ldV N S b (cW z) (cP z) (cV z))) ((cRc (sV z (ldV N S b (cW z) (cP z) (cV z)))) + (nI (cntA (cP (sV z (ldV N S b (cW z) (cP z) (cV z)))) (nI b) N)))) (setC N (cV (sRc (sV z (ldV N S b (cW z) (cP z) (cV z))) ((cRc (sV z (ldV N S b (cW z) (cP z) (cV z)))) + (nI (cntA (cP (sV z (ldV N S b (cW z) (cP z) (cV z)))) (nI b) N))))) f n v))).2 := ⟨_, rfl⟩
    have hP : va_P D vwCl (wC cA q N S u12) H1 := by rw [hu12]; exact hP1
    have hD : va_D (k_A (wC cA q N S z)) (wC cA q N S u12) := k_D hD rfl
    generalize H1 = H at hP hS ⊢
    refine lv_if_eq (tgt := 139) hx hb d_A_writeColumns_125 rfl (fun g125 => ?_) (fun g125 => ?_)
    · have h125 := bi_z.mp g125
      refine lv_iconst (v := 0) hx hb d_A_writeColumns_139 (by decide) ?_
      have e13 : (cWC N S b f n v z).2 = u12 := by subst hu12; first | (skip; (repeat (first | rw [if_pos g28] | rw [if_neg g28] | rw [if_pos h28] | rw [if_neg h28] | rw [hr1] | rw [if_pos g125] | rw [if_neg g125] | rw [if_pos h125] | rw [if_neg h125] | rw [if_neg (show ¬ true = false by decide)] | rw [if_pos (show false = false from rfl)] | dsimp only)); first | done | rfl) | rfl | (simp [bi, g28, h28, hr1, g125, h125]; done)
      exact W.zret (v := 0) (ty := .boolean) hx hb hr (rfl) (fun t ht hW => ⟨⟨_, (), rfl, by subst hu12; first | (skip; (repeat (first | rw [if_pos g28] | rw [if_neg g28] | rw [if_pos h28] | rw [if_neg h28] | rw [hr1] | rw [if_pos g125] | rw [if_neg g125] | rw [if_pos h125] | rw [if_neg h125] | rw [if_neg (show ¬ true = false by decide)] | rw [if_pos (show false = false from rfl)] | dsimp only)); first | done | rfl) | rfl | (simp [bi, g28, h28, hr1, g125, h125]; done), by show va_P D vwCl (wC cA q N S ((cWC N S b f n v z).2)) t.heap; rw [ht, e13]; exact hP⟩, hS.F ht⟩) hS.2.2 d_A_writeColumns_140
    · have h125 := bi_nz.mp g125
      refine lv_aload_n hx hb d_A_writeColumns_128 rfl (lv_at hl 1 rfl) ?_
      refine k_wri (va_runV (C := R_A) (As := []) (rest := []) ⟨hx, hb, hml, hown, hts⟩ (c_DualParityArray_carryOutEntry l D cA q N S u12 (by omega) (by omega) (by omega) (by omega) b (by omega) (by subst hu12; exact log_ls h125)) (k_cwV 0 hts m_code_A_carryOutEntry m_ini_A m_l_A_174 m_inst_A_carryOutEntry m_sel_A_carryOutEntry h_A_carryOutEntry rfl rfl ⟨Nat.le_of_ble_eq_true rfl, Nat.le_of_ble_eq_true rfl⟩) (k_pW hP hK hD [0, 1, 2, 3, 4, 5, 6, 7] (by decide) rfl 0 3 rfl rfl) rfl rfl hl.1 rfl (lv_room (Nat.le_of_ble_eq_true rfl)) d_A_writeColumns_129 ⟨Nat.zero_le _, Nat.zero_le _⟩) hS hD [0, 1, 2, 3, 4, 5, 6, 7] rfl (fun r u H1 locs hp hk hP1 hS => ?_)
      subst hp
      obtain ⟨u14, hu14⟩ : ∃ w, w = (cCar N S b u12).2 := ⟨_, rfl⟩
      have hP : va_P D vwCl (wC cA q N S u14) H1 := by rw [hu14]; exact hP1
      have hD : va_D (k_A (wC cA q N S z)) (wC cA q N S u14) := k_D hD rfl
      generalize H1 = H at hP hS ⊢
      refine lv_if_eq (tgt := 139) hx hb d_A_writeColumns_132 rfl (fun g132 => ?_) (fun g132 => ?_)
      · have h132 := bi_z.mp g132
        refine lv_iconst (v := 0) hx hb d_A_writeColumns_139 (by decide) ?_
        have e15 : (cWC N S b f n v z).2 = u14 := by subst hu14; subst hu12; first | (skip; (repeat (first | rw [if_pos g28] | rw [if_neg g28] | rw [if_pos h28] | rw [if_neg h28] | rw [hr1] | rw [if_pos g125] | rw [if_neg g125] | rw [if_pos h125] | rw [if_neg h125] | rw [if_pos g132] | rw [if_neg g132] | rw [if_pos h132] | rw [if_neg h132] | rw [if_neg (show ¬ true = false by decide)] | rw [if_pos (show false = false from rfl)] | dsimp only)); first | done | rfl) | rfl | (simp [bi, g28, h28, hr1, g125, h125, g132, h132]; done)
        exact W.zret (v := 0) (ty := .boolean) hx hb hr (rfl) (fun t ht hW => ⟨⟨_, (), rfl, by subst hu14; subst hu12; first | (skip; (repeat (first | rw [if_pos g28] | rw [if_neg g28] | rw [if_pos h28] | rw [if_neg h28] | rw [hr1] | rw [if_pos g125] | rw [if_neg g125] | rw [if_pos h125] | rw [if_neg h125] | rw [if_pos g132] | rw [if_neg g132] | rw [if_pos h132] | rw [if_neg h132] | rw [if_neg (show ¬ true = false by decide)] | rw [if_pos (show false = false from rfl)] | dsimp only)); first | done | rfl) | rfl | (simp [bi, g28, h28, hr1, g125, h125, g132, h132]; done), by show va_P D vwCl (wC cA q N S ((cWC N S b f n v z).2)) t.heap; rw [ht, e15]; exact hP⟩, hS.F ht⟩) hS.2.2 d_A_writeColumns_140
      · have h132 := bi_nz.mp g132
        refine lv_iconst (v := 1) hx hb d_A_writeColumns_135 (by decide) ?_
        refine lv_goto hx hb d_A_writeColumns_136 rfl ?_
        have e16 : (cWC N S b f n v z).2 = u14 := by subst hu14; subst hu12; first | (skip; (repeat (first | rw [if_pos g28] | rw [if_neg g28] | rw [if_pos h28] | rw [if_neg h28] | rw [hr1] | rw [if_pos g125] | rw [if_neg g125] | rw [if_pos h125] | rw [if_neg h125] | rw [if_pos g132] | rw [if_neg g132] | rw [if_pos h132] | rw [if_neg h132] | rw [if_neg (show ¬ true = false by decide)] | rw [if_pos (show false = false from rfl)] | dsimp only)); first | done | rfl) | rfl | (simp [bi, g28, h28, hr1, g125, h125, g132, h132]; done)
        exact W.zret (v := 1) (ty := .boolean) hx hb hr (rfl) (fun t ht hW => ⟨⟨_, (), rfl, by subst hu14; subst hu12; first | (skip; (repeat (first | rw [if_pos g28] | rw [if_neg g28] | rw [if_pos h28] | rw [if_neg h28] | rw [hr1] | rw [if_pos g125] | rw [if_neg g125] | rw [if_pos h125] | rw [if_neg h125] | rw [if_pos g132] | rw [if_neg g132] | rw [if_pos h132] | rw [if_neg h132] | rw [if_neg (show ¬ true = false by decide)] | rw [if_pos (show false = false from rfl)] | dsimp only)); first | done | rfl) | rfl | (simp [bi, g28, h28, hr1, g125, h125, g132, h132]; done), by show va_P D vwCl (wC cA q N S ((cWC N S b f n v z).2)) t.heap; rw [ht, e16]; exact hP⟩, hS.F ht⟩) hS.2.2 d_A_writeColumns_140
