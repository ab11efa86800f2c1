set_option maxHeartbeats 4000000 in
set_option maxRecDepth 100000 in
theorem c_Disks_hasDisk (l : Launch) (D : va_G) (cA : ClassId) (hd hw hp N S : Nat) (Wo Po : Fn) (gN4 : 4 ≤ N) (gN : N ≤ 10) (gS1 : 1 ≤ S) (gS : S ≤ 16) (x : Int32) : Met l y_D_hasDisk w_D_hasDisk ({ frames := 0, cells := 0, slots := 0, locals := 0 }) (va_Pc [.ref hd, .int x] (k_R D [(cA, .int)] (wD cA hd hw hp N S Wo Po))) (k_Ro (some (.int (bi (decide (¬ x < 0 ∧ ¬ nI N ≤ x)))))) 0 0 (fun _ => False) := by
  refine Met.ofW (cc := b_D_hasDisk) (maxL := 2) (ret := (some .boolean)) (by decide) rfl ?_
  intro p e s m args below meth c s₁ B hml hv
  obtain ⟨rfl, hP, hK⟩ := hv
  have hx := B.exec
  have hb := B.bytes
  have hr := B.returns
  have hts0 := atoms_spec (ws := w_D_hasDisk) B.pre
  have hts : ∀ w ∈ lw_g, w.before _ s = true := fun w h => hts0 w (List.mem_cons_of_mem _ h)
  have hown : s.vm.findClass R_D = some m.cls := findClass_of_methodNamed B.named
  have hlocks := B.notSynchronized
  have hl := lv_entry ([.ref hd, .int x]) (n := 2) (Nat.le_of_ble_eq_true rfl)
  rw [lg_entry_eq]
  generalize (lg_sl ([.ref hd, .int x]) ++ List.replicate (2 - (lg_sl ([.ref hd, .int x])).length) Slot.unset).toArray = ls at hl ⊢
  have hl : lv_has ls 2 [(0, .ref hd), (1, .int x)] := hl
  refine lv_iload_n hx hb d_D_hasDisk_0 rfl (lv_at hl 1 rfl) ?_
  refine lv_if_lt (tgt := 16) hx hb d_D_hasDisk_1 rfl (fun g1 => ?_) (fun g1 => ?_)
  · have h1 := Int32.not_le.mpr g1
    refine lv_iconst (v := 0) hx hb d_D_hasDisk_16 (by decide) ?_
    refine k_top (bi (decide (¬ x < 0 ∧ ¬ nI N ≤ x))) (by rw [decide_eq_false (show ¬ ((¬ x < 0 ∧ ¬ nI N ≤ x)) by first | assumption | omega | exact fun z => g1 z.1 | exact fun z => g1 z.2 | exact fun z => z.elim (fun z => by omega) (fun z => g1 z.1) | exact fun z => z.elim (fun z => by omega) (fun z => g1 z.2) | exact fun z => h1 z.1 | exact fun z => h1 z.2 | exact fun z => z.elim (fun z => by omega) (fun z => h1 z.1) | exact fun z => z.elim (fun z => by omega) (fun z => h1 z.2) | (simp [bi, g1, h1]; done))]; rfl) ?_
    exact W.zret (v := bi (decide (¬ x < 0 ∧ ¬ nI N ≤ x))) (ty := .boolean) hx hb hr (bi_n _) (fun t ht hW => ⟨rfl, ht⟩) (fun _ h => by cases h) d_D_hasDisk_17
  · have h1 := Int32.not_lt.mp g1
    refine lv_iload_n hx hb d_D_hasDisk_4 rfl (lv_at hl 1 rfl) ?_
    refine lv_aload_n hx hb d_D_hasDisk_5 rfl (lv_at hl 0 rfl) ?_
    refine va_get (D := D) (ci := 0) (v := .int (nI N)) (C := R_D) (T := T_D) (N := 4) hx hb hts (in_D) hown hK hP 0 rfl rfl 0 (by decide) (hts _ m_f_D_9) (fun _ h9 => h9) rfl d_D_hasDisk_6 ?_
    refine lv_icmp_ge (tgt := 16) hx hb d_D_hasDisk_9 rfl (fun g9 => ?_) (fun g9 => ?_)
    · have h9 := Int32.not_lt.mpr g9
      refine lv_iconst (v := 0) hx hb d_D_hasDisk_16 (by decide) ?_
      refine k_top (bi (decide (¬ x < 0 ∧ ¬ nI N ≤ x))) (by rw [decide_eq_false (show ¬ ((¬ x < 0 ∧ ¬ nI N ≤ x)) by first | assumption | omega | exact fun z => g1 z.1 | exact fun z => g1 z.2 | exact fun z => z.elim (fun z => by omega) (fun z => g1 z.1) | exact fun z => z.elim (fun z => by omega) (fun z => g1 z.2) | exact fun z => h1 z.1 | exact fun z => h1 z.2 | exact fun z => z.elim (fun z => by omega) (fun z => h1 z.1) | exact fun z => z.elim (fun z => by omega) (fun z => h1 z.2) | exact fun z => g9 z.1 | exact fun z => g9 z.2 | exact fun z => z.elim (fun z => by omega) (fun z => g9 z.1) | exact fun z => z.elim (fun z => by omega) (fun z => g9 z.2) | exact fun z => h9 z.1 | exact fun z => h9 z.2 | exact fun z => z.elim (fun z => by omega) (fun z => h9 z.1) | exact fun z => z.elim (fun z => by omega) (fun z => h9 z.2) | (simp [bi, g1, h1, g9, h9]; done))]; rfl) ?_
      exact W.zret (v := bi (decide (¬ x < 0 ∧ ¬ nI N ≤ x))) (ty := .boolean) hx hb hr (bi_n _) (fun t ht hW => ⟨rfl, ht⟩) (fun _ h => by cases h) d_D_hasDisk_17
    · have h9 := Int32.not_le.mp g9
      refine lv_iconst (v := 1) hx hb d_D_hasDisk_12 (by decide) ?_
      refine lv_goto hx hb d_D_hasDisk_13 rfl ?_
      refine k_top (bi (decide (¬ x < 0 ∧ ¬ nI N ≤ x))) (by rw [decide_eq_true (show (¬ x < 0 ∧ ¬ nI N ≤ x) by first | assumption | omega | exact ⟨by assumption, by assumption⟩ | exact ⟨⟨by assumption, by assumption⟩, by assumption⟩ | exact Or.inl (by first | assumption | omega) | exact Or.inr ⟨by assumption, by assumption⟩ | (simp [bi, g1, h1, g9, h9]; done))]; rfl) ?_
      exact W.zret (v := bi (decide (¬ x < 0 ∧ ¬ nI N ≤ x))) (ty := .boolean) hx hb hr (bi_n _) (fun t ht hW => ⟨rfl, ht⟩) (fun _ h => by cases h) d_D_hasDisk_17
set_option maxHeartbeats 4000000 in
set_option maxRecDepth 100000 in
theorem c_Disks_hasStripe (l : Launch) (D : va_G) (cA : ClassId) (hd hw hp N S : Nat) (Wo Po : Fn) (gN4 : 4 ≤ N) (gN : N ≤ 10) (gS1 : 1 ≤ S) (gS : S ≤ 16) (x : Int32) : Met l y_D_hasStripe w_D_hasStripe ({ frames := 0, cells := 0, slots := 0, locals := 0 }) (va_Pc [.ref hd, .int x] (k_R D [(cA, .int)] (wD cA hd hw hp N S Wo Po))) (k_Ro (some (.int (bi (decide (¬ x < 0 ∧ ¬ nI S ≤ x)))))) 0 0 (fun _ => False) := by
  refine Met.ofW (cc := b_D_hasStripe) (maxL := 2) (ret := (some .boolean)) (by decide) rfl ?_
  intro p e s m args below meth c s₁ B hml hv
  obtain ⟨rfl, hP, hK⟩ := hv
  have hx := B.exec
  have hb := B.bytes
  have hr := B.returns
  have hts0 := atoms_spec (ws := w_D_hasStripe) B.pre
  have hts : ∀ w ∈ lw_g, w.before _ s = true := fun w h => hts0 w (List.mem_cons_of_mem _ h)
  have hown : s.vm.findClass R_D = some m.cls := findClass_of_methodNamed B.named
  have hlocks := B.notSynchronized
  have hl := lv_entry ([.ref hd, .int x]) (n := 2) (Nat.le_of_ble_eq_true rfl)
  rw [lg_entry_eq]
  generalize (lg_sl ([.ref hd, .int x]) ++ List.replicate (2 - (lg_sl ([.ref hd, .int x])).length) Slot.unset).toArray = ls at hl ⊢
  have hl : lv_has ls 2 [(0, .ref hd), (1, .int x)] := hl
  refine lv_iload_n hx hb d_D_hasStripe_0 rfl (lv_at hl 1 rfl) ?_
  refine lv_if_lt (tgt := 16) hx hb d_D_hasStripe_1 rfl (fun g1 => ?_) (fun g1 => ?_)
  · have h1 := Int32.not_le.mpr g1
    refine lv_iconst (v := 0) hx hb d_D_hasStripe_16 (by decide) ?_
    refine k_top (bi (decide (¬ x < 0 ∧ ¬ nI S ≤ x))) (by rw [decide_eq_false (show ¬ ((¬ x < 0 ∧ ¬ nI S ≤ x)) by first | assumption | omega | exact fun z => g1 z.1 | exact fun z => g1 z.2 | exact fun z => z.elim (fun z => by omega) (fun z => g1 z.1) | exact fun z => z.elim (fun z => by omega) (fun z => g1 z.2) | exact fun z => h1 z.1 | exact fun z => h1 z.2 | exact fun z => z.elim (fun z => by omega) (fun z => h1 z.1) | exact fun z => z.elim (fun z => by omega) (fun z => h1 z.2) | (simp [bi, g1, h1]; done))]; rfl) ?_
    exact W.zret (v := bi (decide (¬ x < 0 ∧ ¬ nI S ≤ x))) (ty := .boolean) hx hb hr (bi_n _) (fun t ht hW => ⟨rfl, ht⟩) (fun _ h => by cases h) d_D_hasStripe_17
  · have h1 := Int32.not_lt.mp g1
    refine lv_iload_n hx hb d_D_hasStripe_4 rfl (lv_at hl 1 rfl) ?_
    refine lv_aload_n hx hb d_D_hasStripe_5 rfl (lv_at hl 0 rfl) ?_
    refine va_get (D := D) (ci := 0) (v := .int (nI S)) (C := R_D) (T := T_D) (N := 4) hx hb hts (in_D) hown hK hP 0 rfl rfl 1 (by decide) (hts _ m_f_D_15) (fun _ h9 => h9) rfl d_D_hasStripe_6 ?_
    refine lv_icmp_ge (tgt := 16) hx hb d_D_hasStripe_9 rfl (fun g9 => ?_) (fun g9 => ?_)
    · have h9 := Int32.not_lt.mpr g9
      refine lv_iconst (v := 0) hx hb d_D_hasStripe_16 (by decide) ?_
      refine k_top (bi (decide (¬ x < 0 ∧ ¬ nI S ≤ x))) (by rw [decide_eq_false (show ¬ ((¬ x < 0 ∧ ¬ nI S ≤ x)) by first | assumption | omega | exact fun z => g1 z.1 | exact fun z => g1 z.2 | exact fun z => z.elim (fun z => by omega) (fun z => g1 z.1) | exact fun z => z.elim (fun z => by omega) (fun z => g1 z.2) | exact fun z => h1 z.1 | exact fun z => h1 z.2 | exact fun z => z.elim (fun z => by omega) (fun z => h1 z.1) | exact fun z => z.elim (fun z => by omega) (fun z => h1 z.2) | exact fun z => g9 z.1 | exact fun z => g9 z.2 | exact fun z => z.elim (fun z => by omega) (fun z => g9 z.1) | exact fun z => z.elim (fun z => by omega) (fun z => g9 z.2) | exact fun z => h9 z.1 | exact fun z => h9 z.2 | exact fun z => z.elim (fun z => by omega) (fun z => h9 z.1) | exact fun z => z.elim (fun z => by omega) (fun z => h9 z.2) | (simp [bi, g1, h1, g9, h9]; done))]; rfl) ?_
      exact W.zret (v := bi (decide (¬ x < 0 ∧ ¬ nI S ≤ x))) (ty := .boolean) hx hb hr (bi_n _) (fun t ht hW => ⟨rfl, ht⟩) (fun _ h => by cases h) d_D_hasStripe_17
    · have h9 := Int32.not_le.mp g9
      refine lv_iconst (v := 1) hx hb d_D_hasStripe_12 (by decide) ?_
      refine lv_goto hx hb d_D_hasStripe_13 rfl ?_
      refine k_top (bi (decide (¬ x < 0 ∧ ¬ nI S ≤ x))) (by rw [decide_eq_true (show (¬ x < 0 ∧ ¬ nI S ≤ x) by first | assumption | omega | exact ⟨by assumption, by assumption⟩ | exact ⟨⟨by assumption, by assumption⟩, by assumption⟩ | exact Or.inl (by first | assumption | omega) | exact Or.inr ⟨by assumption, by assumption⟩ | (simp [bi, g1, h1, g9, h9]; done))]; rfl) ?_
      exact W.zret (v := bi (decide (¬ x < 0 ∧ ¬ nI S ≤ x))) (ty := .boolean) hx hb hr (bi_n _) (fun t ht hW => ⟨rfl, ht⟩) (fun _ h => by cases h) d_D_hasStripe_17
set_option maxHeartbeats 4000000 in
set_option maxRecDepth 100000 in
theorem c_Disks_hasCell (l : Launch) (D : va_G) (cA : ClassId) (hd hw hp N S : Nat) (Wo Po : Fn) (gN4 : 4 ≤ N) (gN : N ≤ 10) (gS1 : 1 ≤ S) (gS : S ≤ 16) (x y : Int32) : Met l y_D_hasCell w_D_hasCell ({ frames := 1, cells := 0, slots := 0, locals := 21 }) (va_Pc [.ref hd, .int x, .int y] (k_R D [(cA, .int)] (wD cA hd hw hp N S Wo Po))) (k_Ro (some (.int (bi (decide ((¬ x < 0 ∧ ¬ nI N ≤ x) ∧ (¬ y < 0 ∧ ¬ nI S ≤ y))))))) 0 0 (fun _ => False) := by
  refine Met.ofW (cc := b_D_hasCell) (maxL := 3) (ret := (some .boolean)) (by decide) rfl ?_
  intro p e s m args below meth c s₁ B hml hv
  obtain ⟨rfl, hP, hK⟩ := hv
  have hx := B.exec
  have hb := B.bytes
  have hr := B.returns
  have hts0 := atoms_spec (ws := w_D_hasCell) B.pre
  have hts : ∀ w ∈ lw_g, w.before _ s = true := fun w h => hts0 w (List.mem_cons_of_mem _ h)
  have hown : s.vm.findClass R_D = some m.cls := findClass_of_methodNamed B.named
  have hlocks := B.notSynchronized
  have hl := lv_entry ([.ref hd, .int x, .int y]) (n := 3) (Nat.le_of_ble_eq_true rfl)
  rw [lg_entry_eq]
  generalize (lg_sl ([.ref hd, .int x, .int y]) ++ List.replicate (3 - (lg_sl ([.ref hd, .int x, .int y])).length) Slot.unset).toArray = ls at hl ⊢
  have hl : lv_has ls 3 [(0, .ref hd), (1, .int x), (2, .int y)] := hl
  refine lv_aload_n hx hb d_D_hasCell_0 rfl (lv_at hl 0 rfl) ?_
  refine lv_iload_n hx hb d_D_hasCell_1 rfl (lv_at hl 1 rfl) ?_
  refine k_roi (va_runV (C := R_D) (As := [.int x]) (rest := []) ⟨hx, hb, hml, hown, hts⟩ (c_Disks_hasDisk l D cA hd hw hp N S Wo Po (by omega) (by omega) (by omega) (by omega) x) (k_cwV 1 hts m_code_D_hasDisk m_ini_D m_l_D_25 m_inst_D_hasDisk m_sel_D_hasDisk h_D_hasDisk rfl rfl ⟨Nat.le_of_ble_eq_true rfl, Nat.le_of_ble_eq_true rfl⟩) (k_pR hP hK [0, 1, 2] rfl 0 0 rfl rfl) rfl rfl hl.1 rfl (lv_room (Nat.le_of_ble_eq_true rfl)) d_D_hasCell_2 ⟨Nat.zero_le _, Nat.zero_le _⟩) ?_
  refine lv_if_eq (tgt := 20) hx hb d_D_hasCell_5 rfl (fun g5 => ?_) (fun g5 => ?_)
  · have h5 := of_decide_eq_false (bi_z.mp g5)
    refine lv_iconst (v := 0) hx hb d_D_hasCell_20 (by decide) ?_
    refine k_top (bi (decide ((¬ x < 0 ∧ ¬ nI N ≤ x) ∧ (¬ y < 0 ∧ ¬ nI S ≤ y)))) (by rw [decide_eq_false (show ¬ (((¬ x < 0 ∧ ¬ nI N ≤ x) ∧ (¬ y < 0 ∧ ¬ nI S ≤ y))) by first | assumption | omega | exact fun z => g5 z.1 | exact fun z => g5 z.2 | exact fun z => z.elim (fun z => by omega) (fun z => g5 z.1) | exact fun z => z.elim (fun z => by omega) (fun z => g5 z.2) | exact fun z => h5 z.1 | exact fun z => h5 z.2 | exact fun z => z.elim (fun z => by omega) (fun z => h5 z.1) | exact fun z => z.elim (fun z => by omega) (fun z => h5 z.2) | (simp [bi, g5, h5]; done))]; rfl) ?_
    exact W.zret (v := bi (decide ((¬ x < 0 ∧ ¬ nI N ≤ x) ∧ (¬ y < 0 ∧ ¬ nI S ≤ y)))) (ty := .boolean) hx hb hr (bi_n _) (fun t ht hW => ⟨rfl, ht⟩) (fun _ h => by cases h) d_D_hasCell_21
  · have h5 := of_decide_eq_true (bi_nz.mp g5)
    refine lv_aload_n hx hb d_D_hasCell_8 rfl (lv_at hl 0 rfl) ?_
    refine lv_iload_n hx hb d_D_hasCell_9 rfl (lv_at hl 2 rfl) ?_
    refine k_roi (va_runV (C := R_D) (As := [.int y]) (rest := []) ⟨hx, hb, hml, hown, hts⟩ (c_Disks_hasStripe l D cA hd hw hp N S Wo Po (by omega) (by omega) (by omega) (by omega) y) (k_cwV 1 hts m_code_D_hasStripe m_ini_D m_l_D_29 m_inst_D_hasStripe m_sel_D_hasStripe h_D_hasStripe rfl rfl ⟨Nat.le_of_ble_eq_true rfl, Nat.le_of_ble_eq_true rfl⟩) (k_pR hP hK [0, 1, 2] rfl 0 0 rfl rfl) rfl rfl hl.1 rfl (lv_room (Nat.le_of_ble_eq_true rfl)) d_D_hasCell_10 ⟨Nat.zero_le _, Nat.zero_le _⟩) ?_
    refine lv_if_eq (tgt := 20) hx hb d_D_hasCell_13 rfl (fun g13 => ?_) (fun g13 => ?_)
    · have h13 := of_decide_eq_false (bi_z.mp g13)
      refine lv_iconst (v := 0) hx hb d_D_hasCell_20 (by decide) ?_
      refine k_top (bi (decide ((¬ x < 0 ∧ ¬ nI N ≤ x) ∧ (¬ y < 0 ∧ ¬ nI S ≤ y)))) (by rw [decide_eq_false (show ¬ (((¬ x < 0 ∧ ¬ nI N ≤ x) ∧ (¬ y < 0 ∧ ¬ nI S ≤ y))) by first | assumption | omega | exact fun z => g5 z.1 | exact fun z => g5 z.2 | exact fun z => z.elim (fun z => by omega) (fun z => g5 z.1) | exact fun z => z.elim (fun z => by omega) (fun z => g5 z.2) | exact fun z => h5 z.1 | exact fun z => h5 z.2 | exact fun z => z.elim (fun z => by omega) (fun z => h5 z.1) | exact fun z => z.elim (fun z => by omega) (fun z => h5 z.2) | exact fun z => g13 z.1 | exact fun z => g13 z.2 | exact fun z => z.elim (fun z => by omega) (fun z => g13 z.1) | exact fun z => z.elim (fun z => by omega) (fun z => g13 z.2) | exact fun z => h13 z.1 | exact fun z => h13 z.2 | exact fun z => z.elim (fun z => by omega) (fun z => h13 z.1) | exact fun z => z.elim (fun z => by omega) (fun z => h13 z.2) | (simp [bi, g5, h5, g13, h13]; done))]; rfl) ?_
      exact W.zret (v := bi (decide ((¬ x < 0 ∧ ¬ nI N ≤ x) ∧ (¬ y < 0 ∧ ¬ nI S ≤ y)))) (ty := .boolean) hx hb hr (bi_n _) (fun t ht hW => ⟨rfl, ht⟩) (fun _ h => by cases h) d_D_hasCell_21
    · have h13 := of_decide_eq_true (bi_nz.mp g13)
      refine lv_iconst (v := 1) hx hb d_D_hasCell_16 (by decide) ?_
      refine lv_goto hx hb d_D_hasCell_17 rfl ?_
      refine k_top (bi (decide ((¬ x < 0 ∧ ¬ nI N ≤ x) ∧ (¬ y < 0 ∧ ¬ nI S ≤ y)))) (by rw [decide_eq_true (show ((¬ x < 0 ∧ ¬ nI N ≤ x) ∧ (¬ y < 0 ∧ ¬ nI S ≤ y)) by first | assumption | omega | exact ⟨by assumption, by assumption⟩ | exact ⟨⟨by assumption, by assumption⟩, by assumption⟩ | exact Or.inl (by first | assumption | omega) | exact Or.inr ⟨by assumption, by assumption⟩ | (simp [bi, g5, h5, g13, h13]; done))]; rfl) ?_
      exact W.zret (v := bi (decide ((¬ x < 0 ∧ ¬ nI N ≤ x) ∧ (¬ y < 0 ∧ ¬ nI S ≤ y)))) (ty := .boolean) hx hb hr (bi_n _) (fun t ht hW => ⟨rfl, ht⟩) (fun _ h => by cases h) d_D_hasCell_21
set_option maxHeartbeats 4000000 in
set_option maxRecDepth 100000 in
theorem c_Disks_diskOfP (l : Launch) (D : va_G) (cA : ClassId) (hd hw hp N S : Nat) (Wo Po : Fn) (gN4 : 4 ≤ N) (gN : N ≤ 10) (gS1 : 1 ≤ S) (gS : S ≤ 16) (b : Nat) (hb1 : b < S) : Met l y_D_diskOfP w_D_diskOfP ({ frames := 0, cells := 0, slots := 0, locals := 0 }) (va_Pc [.ref hd, .int (nI b)] (k_R D [(cA, .int)] (wD cA hd hw hp N S Wo Po))) (k_Ro (some (.int (nI (dP N b))))) 0 0 (fun _ => False) := by
  refine Met.ofW (cc := b_D_diskOfP) (maxL := 2) (ret := (some .int)) (by decide) rfl ?_
  intro p e s m args below meth c s₁ B hml hv
  obtain ⟨rfl, hP, hK⟩ := hv
  have hx := B.exec
  have hb := B.bytes
  have hr := B.returns
  have hts0 := atoms_spec (ws := w_D_diskOfP) B.pre
  have hts : ∀ w ∈ lw_g, w.before _ s = true := fun w h => hts0 w (List.mem_cons_of_mem _ h)
  have hown : s.vm.findClass R_D = some m.cls := findClass_of_methodNamed B.named
  have hlocks := B.notSynchronized
  have hl := lv_entry ([.ref hd, .int (nI b)]) (n := 2) (Nat.le_of_ble_eq_true rfl)
  rw [lg_entry_eq]
  generalize (lg_sl ([.ref hd, .int (nI b)]) ++ List.replicate (2 - (lg_sl ([.ref hd, .int (nI b)])).length) Slot.unset).toArray = ls at hl ⊢
  have hl : lv_has ls 2 [(0, .ref hd), (1, .int (nI b))] := hl
  have hm : b % N < N := Nat.mod_lt b (by omega)
  refine lv_aload_n hx hb d_D_diskOfP_0 rfl (lv_at hl 0 rfl) ?_
  refine va_get (D := D) (ci := 0) (v := .int (nI N)) (C := R_D) (T := T_D) (N := 4) hx hb hts (in_D) hown hK hP 0 rfl rfl 0 (by decide) (hts _ m_f_D_9) (fun _ h9 => h9) rfl d_D_diskOfP_1 ?_
  refine lv_iconst (v := 1) hx hb d_D_diskOfP_4 (by decide) ?_
  refine lv_isub hx hb d_D_diskOfP_5 ?_
  refine k_top (nI (N - 1)) (pk_sub (a := N) (b := 1) (by omega)) ?_
  refine lv_iload_n hx hb d_D_diskOfP_6 rfl (lv_at hl 1 rfl) ?_
  refine lv_aload_n hx hb d_D_diskOfP_7 rfl (lv_at hl 0 rfl) ?_
  refine va_get (D := D) (ci := 0) (v := .int (nI N)) (C := R_D) (T := T_D) (N := 4) hx hb hts (in_D) hown hK hP 0 rfl rfl 0 (by decide) (hts _ m_f_D_9) (fun _ h9 => h9) rfl d_D_diskOfP_8 ?_
  refine lv_irem hx hb d_D_diskOfP_11 (nI_ne0 (by omega) (by omega)) ?_
  refine k_top (nI (b % N)) (pk_rem (a := b) (d := N) (by omega) (by omega) (by omega)) ?_
  refine lv_isub hx hb d_D_diskOfP_12 ?_
  refine k_top (nI (N - 1 - (b % N))) (pk_sub (a := N - 1) (b := b % N) (by omega)) ?_
  refine k_top (nI (dP N b)) (by first | rfl | (simp []; done) | omega) ?_
  exact W.iret (v := nI (dP N b)) hx hb hr (fun t ht hW => ⟨rfl, ht⟩) (fun _ h => by cases h) d_D_diskOfP_13
set_option maxHeartbeats 4000000 in
set_option maxRecDepth 100000 in
theorem c_Disks_diskOf (l : Launch) (D : va_G) (cA : ClassId) (hd hw hp N S : Nat) (Wo Po : Fn) (gN4 : 4 ≤ N) (gN : N ≤ 10) (gS1 : 1 ≤ S) (gS : S ≤ 16) (a b : Nat) (ha : a < N) (hb1 : b < S) : Met l y_D_diskOf w_D_diskOf ({ frames := 1, cells := 0, slots := 0, locals := 21 }) (va_Pc [.ref hd, .int (nI a), .int (nI b)] (k_R D [(cA, .int)] (wD cA hd hw hp N S Wo Po))) (k_Ro (some (.int (nI (dk N a b))))) 0 0 (fun _ => False) := by
  refine Met.ofW (cc := b_D_diskOf) (maxL := 3) (ret := (some .int)) (by decide) rfl ?_
  intro p e s m args below meth c s₁ B hml hv
  obtain ⟨rfl, hP, hK⟩ := hv
  have hx := B.exec
  have hb := B.bytes
  have hr := B.returns
  have hts0 := atoms_spec (ws := w_D_diskOf) B.pre
  have hts : ∀ w ∈ lw_g, w.before _ s = true := fun w h => hts0 w (List.mem_cons_of_mem _ h)
  have hown : s.vm.findClass R_D = some m.cls := findClass_of_methodNamed B.named
  have hlocks := B.notSynchronized
  have hl := lv_entry ([.ref hd, .int (nI a), .int (nI b)]) (n := 3) (Nat.le_of_ble_eq_true rfl)
  rw [lg_entry_eq]
  generalize (lg_sl ([.ref hd, .int (nI a), .int (nI b)]) ++ List.replicate (3 - (lg_sl ([.ref hd, .int (nI a), .int (nI b)])).length) Slot.unset).toArray = ls at hl ⊢
  have hl : lv_has ls 3 [(0, .ref hd), (1, .int (nI a)), (2, .int (nI b))] := hl
  refine lv_aload_n hx hb d_D_diskOf_0 rfl (lv_at hl 0 rfl) ?_
  refine lv_iload_n hx hb d_D_diskOf_1 rfl (lv_at hl 2 rfl) ?_
  refine k_roi (va_runV (C := R_D) (As := [.int (nI b)]) (rest := []) ⟨hx, hb, hml, hown, hts⟩ (c_Disks_diskOfP l D cA hd hw hp N S Wo Po (by omega) (by omega) (by omega) (by omega) b (by omega)) (k_cwV 1 hts m_code_D_diskOfP m_ini_D m_l_D_32 m_inst_D_diskOfP m_sel_D_diskOfP h_D_diskOfP rfl rfl ⟨Nat.le_of_ble_eq_true rfl, Nat.le_of_ble_eq_true rfl⟩) (k_pR hP hK [0, 1, 2] rfl 0 0 rfl rfl) rfl rfl hl.1 rfl (lv_room (Nat.le_of_ble_eq_true rfl)) d_D_diskOf_2 ⟨Nat.zero_le _, Nat.zero_le _⟩) ?_
  have f1 : dP N b < N := dP_lt (by omega)
  refine lv_iconst (v := 2) hx hb d_D_diskOf_5 (by decide) ?_
  refine lv_iadd hx hb d_D_diskOf_6 ?_
  refine k_top (nI (dP N b + 2)) (nI_add (dP N b) 2) ?_
  refine lv_iload_n hx hb d_D_diskOf_7 rfl (lv_at hl 1 rfl) ?_
  refine lv_iadd hx hb d_D_diskOf_8 ?_
  refine k_top (nI (dP N b + 2 + a)) (nI_add (dP N b + 2) a) ?_
  refine lv_aload_n hx hb d_D_diskOf_9 rfl (lv_at hl 0 rfl) ?_
  refine va_get (D := D) (ci := 0) (v := .int (nI N)) (C := R_D) (T := T_D) (N := 4) hx hb hts (in_D) hown hK hP 0 rfl rfl 0 (by decide) (hts _ m_f_D_9) (fun _ h9 => h9) rfl d_D_diskOf_10 ?_
  refine lv_irem hx hb d_D_diskOf_13 (nI_ne0 (by omega) (by omega)) ?_
  refine k_top (nI ((dP N b + 2 + a) % N)) (pk_rem (a := dP N b + 2 + a) (d := N) (by omega) (by omega) (by omega)) ?_
  refine k_top (nI (dk N a b)) (by first | rfl | (simp []; done) | omega) ?_
  exact W.iret (v := nI (dk N a b)) hx hb hr (fun t ht hW => ⟨rfl, ht⟩) (fun _ h => by cases h) d_D_diskOf_14
set_option maxHeartbeats 4000000 in
set_option maxRecDepth 100000 in
theorem c_Disks_slotOf (l : Launch) (D : va_G) (cA : ClassId) (hd hw hp N S : Nat) (Wo Po : Fn) (gN4 : 4 ≤ N) (gN : N ≤ 10) (gS1 : 1 ≤ S) (gS : S ≤ 16) (a b : Nat) (ha : a < N) (hb1 : b < S) : Met l y_D_slotOf w_D_slotOf ({ frames := 1, cells := 0, slots := 0, locals := 21 }) (va_Pc [.ref hd, .int (nI a), .int (nI b)] (k_R D [(cA, .int)] (wD cA hd hw hp N S Wo Po))) (k_Ro (some (.int (nI (slt N a b))))) 0 0 (fun _ => False) := by
  refine Met.ofW (cc := b_D_slotOf) (maxL := 3) (ret := (some .int)) (by decide) rfl ?_
  intro p e s m args below meth c s₁ B hml hv
  obtain ⟨rfl, hP, hK⟩ := hv
  have hx := B.exec
  have hb := B.bytes
  have hr := B.returns
  have hts0 := atoms_spec (ws := w_D_slotOf) B.pre
  have hts : ∀ w ∈ lw_g, w.before _ s = true := fun w h => hts0 w (List.mem_cons_of_mem _ h)
  have hown : s.vm.findClass R_D = some m.cls := findClass_of_methodNamed B.named
  have hlocks := B.notSynchronized
  have hl := lv_entry ([.ref hd, .int (nI a), .int (nI b)]) (n := 3) (Nat.le_of_ble_eq_true rfl)
  rw [lg_entry_eq]
  generalize (lg_sl ([.ref hd, .int (nI a), .int (nI b)]) ++ List.replicate (3 - (lg_sl ([.ref hd, .int (nI a), .int (nI b)])).length) Slot.unset).toArray = ls at hl ⊢
  have hl : lv_has ls 3 [(0, .ref hd), (1, .int (nI a)), (2, .int (nI b))] := hl
  refine lv_iload_n hx hb d_D_slotOf_0 rfl (lv_at hl 1 rfl) ?_
  refine lv_iconst (v := 2) hx hb d_D_slotOf_1 (by decide) ?_
  refine lv_aload_n hx hb d_D_slotOf_2 rfl (lv_at hl 0 rfl) ?_
  refine va_get (D := D) (ci := 0) (v := .int (nI N)) (C := R_D) (T := T_D) (N := 4) hx hb hts (in_D) hown hK hP 0 rfl rfl 0 (by decide) (hts _ m_f_D_9) (fun _ h9 => h9) rfl d_D_slotOf_3 ?_
  refine lv_imul hx hb d_D_slotOf_6 ?_
  refine k_top (nI (2 * N)) (pk_mul 2 N) ?_
  refine lv_iadd hx hb d_D_slotOf_7 ?_
  refine k_top (nI (a + (2 * N))) (nI_add a (2 * N)) ?_
  refine lv_iconst (v := 2) hx hb d_D_slotOf_8 (by decide) ?_
  refine lv_isub hx hb d_D_slotOf_9 ?_
  refine k_top (nI (a + (2 * N) - 2)) (pk_sub (a := a + (2 * N)) (b := 2) (by omega)) ?_
  refine lv_aload_n hx hb d_D_slotOf_10 rfl (lv_at hl 0 rfl) ?_
  refine lv_iload_n hx hb d_D_slotOf_11 rfl (lv_at hl 2 rfl) ?_
  refine k_roi (va_runV (C := R_D) (As := [.int (nI b)]) (rest := [.int (nI (a + (2 * N) - 2))]) ⟨hx, hb, hml, hown, hts⟩ (c_Disks_diskOfP l D cA hd hw hp N S Wo Po (by omega) (by omega) (by omega) (by omega) b (by omega)) (k_cwV 1 hts m_code_D_diskOfP m_ini_D m_l_D_32 m_inst_D_diskOfP m_sel_D_diskOfP h_D_diskOfP rfl rfl ⟨Nat.le_of_ble_eq_true rfl, Nat.le_of_ble_eq_true rfl⟩) (k_pR hP hK [0, 1, 2] rfl 0 0 rfl rfl) rfl rfl hl.1 rfl (lv_room (Nat.le_of_ble_eq_true rfl)) d_D_slotOf_12 ⟨Nat.zero_le _, Nat.zero_le _⟩) ?_
  have f1 : dP N b < N := dP_lt (by omega)
  refine lv_isub hx hb d_D_slotOf_15 ?_
  refine k_top (nI (a + (2 * N) - 2 - (dP N b))) (pk_sub (a := a + (2 * N) - 2) (b := dP N b) (by omega)) ?_
  refine lv_aload_n hx hb d_D_slotOf_16 rfl (lv_at hl 0 rfl) ?_
  refine va_get (D := D) (ci := 0) (v := .int (nI N)) (C := R_D) (T := T_D) (N := 4) hx hb hts (in_D) hown hK hP 0 rfl rfl 0 (by decide) (hts _ m_f_D_9) (fun _ h9 => h9) rfl d_D_slotOf_17 ?_
  refine lv_irem hx hb d_D_slotOf_20 (nI_ne0 (by omega) (by omega)) ?_
  refine k_top (nI ((a + (2 * N) - 2 - (dP N b)) % N)) (pk_rem (a := a + (2 * N) - 2 - (dP N b)) (d := N) (by omega) (by omega) (by omega)) ?_
  refine k_top (nI (slt N a b)) (by first | rfl | (simp []; done) | omega) ?_
  exact W.iret (v := nI (slt N a b)) hx hb hr (fun t ht hW => ⟨rfl, ht⟩) (fun _ h => by cases h) d_D_slotOf_21
set_option maxHeartbeats 4000000 in
set_option maxRecDepth 100000 in
theorem c_Disks_available (l : Launch) (D : va_G) (cA : ClassId) (hd hw hp N S : Nat) (Wo Po : Fn) (gN4 : 4 ≤ N) (gN : N ≤ 10) (gS1 : 1 ≤ S) (gS : S ≤ 16) (a : Nat) (x : Int32) (ha : a < N) : Met l y_D_available w_D_available ({ frames := 0, cells := 0, slots := 0, locals := 0 }) (va_Pc [.ref hd, .int (nI a), .int x] (k_R D [(cA, .int)] (wD cA hd hw hp N S Wo Po))) (k_Ro (some (.int (bi (decide (x < Po a)))))) 0 0 (fun _ => False) := by
  refine Met.ofW (cc := b_D_available) (maxL := 3) (ret := (some .boolean)) (by decide) rfl ?_
  intro p e s m args below meth c s₁ B hml hv
  obtain ⟨rfl, hP, hK⟩ := hv
  have hx := B.exec
  have hb := B.bytes
  have hr := B.returns
  have hts0 := atoms_spec (ws := w_D_available) B.pre
  have hts : ∀ w ∈ lw_g, w.before _ s = true := fun w h => hts0 w (List.mem_cons_of_mem _ h)
  have hown : s.vm.findClass R_D = some m.cls := findClass_of_methodNamed B.named
  have hlocks := B.notSynchronized
  have hl := lv_entry ([.ref hd, .int (nI a), .int x]) (n := 3) (Nat.le_of_ble_eq_true rfl)
  rw [lg_entry_eq]
  generalize (lg_sl ([.ref hd, .int (nI a), .int x]) ++ List.replicate (3 - (lg_sl ([.ref hd, .int (nI a), .int x])).length) Slot.unset).toArray = ls at hl ⊢
  have hl : lv_has ls 3 [(0, .ref hd), (1, .int (nI a)), (2, .int x)] := hl
  refine lv_aload_n hx hb d_D_available_0 rfl (lv_at hl 0 rfl) ?_
  refine va_get (D := D) (ci := 0) (v := .ref hp) (C := R_D) (T := T_D) (N := 4) hx hb hts (in_D) hown hK hP 0 rfl rfl 3 (by decide) (hts _ m_f_D_22) (fun _ h9 => h9) rfl d_D_available_1 ?_
  refine lv_iload_n hx hb d_D_available_4 rfl (lv_at hl 1 rfl) ?_
  refine va_iald (n := N) (f := Po) hx hb hK hP 2 0 rfl rfl (vp_in_nI (by omega) (by omega)) d_D_available_5 ?_
  refine k_top (Po a) (by rw [show (nI a : Int32).toNatClampNeg = a from nI_clamp (n := a) (by omega)]) ?_
  refine lv_iload_n hx hb d_D_available_6 rfl (lv_at hl 2 rfl) ?_
  refine lv_icmp_le (tgt := 14) hx hb d_D_available_7 rfl (fun g7 => ?_) (fun g7 => ?_)
  · have h7 := Int32.not_lt.mpr g7
    refine lv_iconst (v := 0) hx hb d_D_available_14 (by decide) ?_
    refine k_top (bi (decide (x < Po a))) (by rw [decide_eq_false (show ¬ ((x < Po a)) by first | assumption | omega | exact fun z => g7 z.1 | exact fun z => g7 z.2 | exact fun z => z.elim (fun z => by omega) (fun z => g7 z.1) | exact fun z => z.elim (fun z => by omega) (fun z => g7 z.2) | exact fun z => h7 z.1 | exact fun z => h7 z.2 | exact fun z => z.elim (fun z => by omega) (fun z => h7 z.1) | exact fun z => z.elim (fun z => by omega) (fun z => h7 z.2) | (simp [bi, g7, h7]; done))]; rfl) ?_
    exact W.zret (v := bi (decide (x < Po a))) (ty := .boolean) hx hb hr (bi_n _) (fun t ht hW => ⟨rfl, ht⟩) (fun _ h => by cases h) d_D_available_15
  · have h7 := Int32.not_le.mp g7
    refine lv_iconst (v := 1) hx hb d_D_available_10 (by decide) ?_
    refine lv_goto hx hb d_D_available_11 rfl ?_
    refine k_top (bi (decide (x < Po a))) (by rw [decide_eq_true (show (x < Po a) by first | assumption | omega | exact ⟨by assumption, by assumption⟩ | exact ⟨⟨by assumption, by assumption⟩, by assumption⟩ | exact Or.inl (by first | assumption | omega) | exact Or.inr ⟨by assumption, by assumption⟩ | (simp [bi, g7, h7]; done))]; rfl) ?_
    exact W.zret (v := bi (decide (x < Po a))) (ty := .boolean) hx hb hr (bi_n _) (fun t ht hW => ⟨rfl, ht⟩) (fun _ h => by cases h) d_D_available_15
set_option maxHeartbeats 4000000 in
set_option maxRecDepth 100000 in
theorem c_Disks_countAvailable (l : Launch) (D : va_G) (cA : ClassId) (hd hw hp N S : Nat) (Wo Po : Fn) (gN4 : 4 ≤ N) (gN : N ≤ 10) (gS1 : 1 ≤ S) (gS : S ≤ 16) (x : Int32) : Met l y_D_countAvailable w_D_countAvailable ({ frames := 1, cells := 0, slots := 0, locals := 22 }) (va_Pc [.ref hd, .int x] (k_R D [(cA, .int)] (wD cA hd hw hp N S Wo Po))) (k_Ro (some (.int (nI (cntA Po x N))))) 0 0 (fun _ => False) := by
  refine Met.ofW (cc := b_D_countAvailable) (maxL := 4) (ret := (some .int)) (by decide) rfl ?_
  intro p e s m args below meth c s₁ B hml hv
  obtain ⟨rfl, hP, hK⟩ := hv
  have hx := B.exec
  have hb := B.bytes
  have hr := B.returns
  have hts0 := atoms_spec (ws := w_D_countAvailable) B.pre
  have hts : ∀ w ∈ lw_g, w.before _ s = true := fun w h => hts0 w (List.mem_cons_of_mem _ h)
  have hown : s.vm.findClass R_D = some m.cls := findClass_of_methodNamed B.named
  have hlocks := B.notSynchronized
  have hl := lv_entry ([.ref hd, .int x]) (n := 4) (Nat.le_of_ble_eq_true rfl)
  rw [lg_entry_eq]
  generalize (lg_sl ([.ref hd, .int x]) ++ List.replicate (4 - (lg_sl ([.ref hd, .int x])).length) Slot.unset).toArray = ls at hl ⊢
  have hl : lv_has ls 4 [(0, .ref hd), (1, .int x)] := hl
  refine lv_iconst (v := 0) hx hb d_D_countAvailable_0 (by decide) ?_
  refine lv_istore_n (lv' := [(2, .int 0), (0, .ref hd), (1, .int x)]) hx hb d_D_countAvailable_1 rfl hl (by decide) rfl (fun ls hl => ?_)
  refine lv_iconst (v := 0) hx hb d_D_countAvailable_2 (by decide) ?_
  refine lv_istore_n (lv' := [(3, .int 0), (2, .int 0), (0, .ref hd), (1, .int x)]) hx hb d_D_countAvailable_3 rfl hl (by decide) rfl (fun ls hl => ?_)
  have L4 : ∀ (k : Nat) (i : Nat) (ls : Array Slot), i + k = N → lv_has ls 4 [(0, .ref hd), (1, .int x), (2, .int (nI (cntA Po x i))), (3, .int (nI i))] → W p l e (headSpec w_D_countAvailable ({ frames := 1, cells := 0, slots := 0, locals := 22 })).room s m ([.ref hd, .int x] : List Value).toArray below meth c s.heap [] 0 0 (MQ below (k_Ro (some (.int (nI (cntA Po x N))))) ([.ref hd, .int x] : List Value).toArray s 0 0 (fun _ => False)) (F0 m 4 ls []) := by
    intro k
    induction k with
    | zero =>
      intro i ls hk hl
      obtain rfl : N = i := by omega
      refine lv_iload_n hx hb d_D_countAvailable_4 rfl (lv_at hl 3 rfl) ?_
      refine lv_aload_n hx hb d_D_countAvailable_5 rfl (lv_at hl 0 rfl) ?_
      refine va_get (D := D) (ci := 0) (v := .int (nI N)) (C := R_D) (T := T_D) (N := 4) hx hb hts (in_D) hown hK hP 0 rfl rfl 0 (by decide) (hts _ m_f_D_9) (fun _ h9 => h9) rfl d_D_countAvailable_6 ?_
      refine lv_icmp_ge (tgt := 30) hx hb d_D_countAvailable_9 rfl (fun g9 => ?_) (fun g9 => ?_)
      · have h9 : N ≤ N := (nI_leI (a := N) (b := N) (by omega) (by omega)).mp g9
        refine lv_iload_n hx hb d_D_countAvailable_30 rfl (lv_at hl 2 rfl) ?_
        exact W.iret (v := nI (cntA Po x N)) hx hb hr (fun t ht hW => ⟨rfl, ht⟩) (fun _ h => by cases h) d_D_countAvailable_31
      · have h9 : ¬ N ≤ N := fun z => g9 ((nI_leI (a := N) (b := N) (by omega) (by omega)).mpr z)
        exfalso; omega
    | succ k ih =>
      intro i ls hk hl
      refine lv_iload_n hx hb d_D_countAvailable_4 rfl (lv_at hl 3 rfl) ?_
      refine lv_aload_n hx hb d_D_countAvailable_5 rfl (lv_at hl 0 rfl) ?_
      refine va_get (D := D) (ci := 0) (v := .int (nI N)) (C := R_D) (T := T_D) (N := 4) hx hb hts (in_D) hown hK hP 0 rfl rfl 0 (by decide) (hts _ m_f_D_9) (fun _ h9 => h9) rfl d_D_countAvailable_6 ?_
      refine lv_icmp_ge (tgt := 30) hx hb d_D_countAvailable_9 rfl (fun g9 => ?_) (fun g9 => ?_)
      · have h9 : N ≤ i := (nI_leI (a := N) (b := i) (by omega) (by omega)).mp g9
        exfalso; omega
      · have h9 : ¬ N ≤ i := fun z => g9 ((nI_leI (a := N) (b := i) (by omega) (by omega)).mpr z)
        refine lv_aload_n hx hb d_D_countAvailable_12 rfl (lv_at hl 0 rfl) ?_
        refine lv_iload_n hx hb d_D_countAvailable_13 rfl (lv_at hl 3 rfl) ?_
        refine lv_iload_n hx hb d_D_countAvailable_14 rfl (lv_at hl 1 rfl) ?_
        refine k_roi (va_runV (C := R_D) (As := [.int (nI i), .int x]) (rest := []) ⟨hx, hb, hml, hown, hts⟩ (c_Disks_available l D cA hd hw hp N S Wo Po (by omega) (by omega) (by omega) (by omega) i x (by omega)) (k_cwV 2 hts m_code_D_available m_ini_D m_l_D_36 m_inst_D_available m_sel_D_available h_D_available rfl rfl ⟨Nat.le_of_ble_eq_true rfl, Nat.le_of_ble_eq_true rfl⟩) (k_pR hP hK [0, 1, 2] rfl 0 0 rfl rfl) rfl rfl hl.1 rfl (lv_room (Nat.le_of_ble_eq_true rfl)) d_D_countAvailable_15 ⟨Nat.zero_le _, Nat.zero_le _⟩) ?_
        refine lv_if_eq (tgt := 24) hx hb d_D_countAvailable_18 rfl (fun g18 => ?_) (fun g18 => ?_)
        · have h18 := of_decide_eq_false (bi_z.mp g18)
          refine lv_iinc (k := 3) (v := nI (i + 1)) (lv' := [(3, .int (nI (i + 1))), (0, .ref hd), (1, .int x), (2, .int (nI (cntA Po x i)))]) hx hb d_D_countAvailable_24 hl rfl (nI_add i 1) (by decide) rfl (fun ls hl => ?_)
          refine lv_goto hx hb d_D_countAvailable_27 rfl ?_
          have e1 : nI (cntA Po x (i + 1)) = nI (cntA Po x i) := by first | rfl | (simp [cntA, g9, h9, g18, h18]; done) | omega
          exact ih (i + 1) ls (by omega) (by rw [e1]; exact lv_sub hl [1, 2, 3, 0] rfl)
        · have h18 := of_decide_eq_true (bi_nz.mp g18)
          refine lv_iinc (k := 2) (v := nI (cntA Po x i + 1)) (lv' := [(2, .int (nI (cntA Po x i + 1))), (0, .ref hd), (1, .int x), (3, .int (nI i))]) hx hb d_D_countAvailable_21 hl rfl (nI_add (cntA Po x i) 1) (by decide) rfl (fun ls hl => ?_)
          refine lv_iinc (k := 3) (v := nI (i + 1)) (lv' := [(3, .int (nI (i + 1))), (2, .int (nI (cntA Po x i + 1))), (0, .ref hd), (1, .int x)]) hx hb d_D_countAvailable_24 hl rfl (nI_add i 1) (by decide) rfl (fun ls hl => ?_)
          refine lv_goto hx hb d_D_countAvailable_27 rfl ?_
          have e2 : nI (cntA Po x (i + 1)) = nI (cntA Po x i + 1) := by first | rfl | (simp [cntA, g9, h9, g18, h18]; done) | omega
          exact ih (i + 1) ls (by omega) (by rw [e2]; exact lv_sub hl [2, 3, 1, 0] rfl)
  have e3 : nI (cntA Po x 0) = 0 := by first | rfl | (simp [cntA]; done) | omega
  have e4 : nI 0 = 0 := by first | rfl | (simp [cntA]; done) | omega
  exact L4 N 0 ls (by omega) (by rw [e3, e4]; exact lv_sub hl [2, 3, 1, 0] rfl)
set_option maxHeartbeats 4000000 in
set_option maxRecDepth 100000 in
theorem c_Disks_allAvailable (l : Launch) (D : va_G) (cA : ClassId) (hd hw hp N S : Nat) (Wo Po : Fn) (gN4 : 4 ≤ N) (gN : N ≤ 10) (gS1 : 1 ≤ S) (gS : S ≤ 16) (x : Int32) : Met l y_D_allAvailable w_D_allAvailable ({ frames := 2, cells := 0, slots := 0, locals := 45 }) (va_Pc [.ref hd, .int x] (k_R D [(cA, .int)] (wD cA hd hw hp N S Wo Po))) (k_Ro (some (.int (bi (decide (cntA Po x N = N)))))) 0 0 (fun _ => False) := by
  refine Met.ofW (cc := b_D_allAvailable) (maxL := 2) (ret := (some .boolean)) (by decide) rfl ?_
  intro p e s m args below meth c s₁ B hml hv
  obtain ⟨rfl, hP, hK⟩ := hv
  have hx := B.exec
  have hb := B.bytes
  have hr := B.returns
  have hts0 := atoms_spec (ws := w_D_allAvailable) B.pre
  have hts : ∀ w ∈ lw_g, w.before _ s = true := fun w h => hts0 w (List.mem_cons_of_mem _ h)
  have hown : s.vm.findClass R_D = some m.cls := findClass_of_methodNamed B.named
  have hlocks := B.notSynchronized
  have hl := lv_entry ([.ref hd, .int x]) (n := 2) (Nat.le_of_ble_eq_true rfl)
  rw [lg_entry_eq]
  generalize (lg_sl ([.ref hd, .int x]) ++ List.replicate (2 - (lg_sl ([.ref hd, .int x])).length) Slot.unset).toArray = ls at hl ⊢
  have hl : lv_has ls 2 [(0, .ref hd), (1, .int x)] := hl
  refine lv_aload_n hx hb d_D_allAvailable_0 rfl (lv_at hl 0 rfl) ?_
  refine lv_iload_n hx hb d_D_allAvailable_1 rfl (lv_at hl 1 rfl) ?_
  refine k_roi (va_runV (C := R_D) (As := [.int x]) (rest := []) ⟨hx, hb, hml, hown, hts⟩ (c_Disks_countAvailable l D cA hd hw hp N S Wo Po (by omega) (by omega) (by omega) (by omega) x) (k_cwV 1 hts m_code_D_countAvailable m_ini_D m_l_D_40 m_inst_D_countAvailable m_sel_D_countAvailable h_D_countAvailable rfl rfl ⟨Nat.le_of_ble_eq_true rfl, Nat.le_of_ble_eq_true rfl⟩) (k_pR hP hK [0, 1, 2] rfl 0 0 rfl rfl) rfl rfl hl.1 rfl (lv_room (Nat.le_of_ble_eq_true rfl)) d_D_allAvailable_2 ⟨Nat.zero_le _, Nat.zero_le _⟩) ?_
  have f1 : cntA Po x N ≤ N := cntA_le _ _ _
  refine lv_aload_n hx hb d_D_allAvailable_5 rfl (lv_at hl 0 rfl) ?_
  refine va_get (D := D) (ci := 0) (v := .int (nI N)) (C := R_D) (T := T_D) (N := 4) hx hb hts (in_D) hown hK hP 0 rfl rfl 0 (by decide) (hts _ m_f_D_9) (fun _ h9 => h9) rfl d_D_allAvailable_6 ?_
  refine lv_icmp_ne (tgt := 16) hx hb d_D_allAvailable_9 rfl (fun g9 => ?_) (fun g9 => ?_)
  · have h9 : ¬ (cntA Po x N) = N := fun z => g9 ((nI_eq (a := cntA Po x N) (b := N) (by omega) (by omega)).mpr z)
    refine lv_iconst (v := 0) hx hb d_D_allAvailable_16 (by decide) ?_
    refine k_top (bi (decide (cntA Po x N = N))) (by rw [decide_eq_false (show ¬ ((cntA Po x N = N)) by first | assumption | omega | exact fun z => g9 z.1 | exact fun z => g9 z.2 | exact fun z => z.elim (fun z => by omega) (fun z => g9 z.1) | exact fun z => z.elim (fun z => by omega) (fun z => g9 z.2) | exact fun z => h9 z.1 | exact fun z => h9 z.2 | exact fun z => z.elim (fun z => by omega) (fun z => h9 z.1) | exact fun z => z.elim (fun z => by omega) (fun z => h9 z.2) | (simp [bi, g9, h9]; done))]; rfl) ?_
    exact W.zret (v := bi (decide (cntA Po x N = N))) (ty := .boolean) hx hb hr (bi_n _) (fun t ht hW => ⟨rfl, ht⟩) (fun _ h => by cases h) d_D_allAvailable_17
  · have h9 : (cntA Po x N) = N := (nI_eq (a := cntA Po x N) (b := N) (by omega) (by omega)).mp g9
    refine lv_iconst (v := 1) hx hb d_D_allAvailable_12 (by decide) ?_
    refine lv_goto hx hb d_D_allAvailable_13 rfl ?_
    refine k_top (bi (decide (cntA Po x N = N))) (by rw [decide_eq_true (show (cntA Po x N = N) by first | assumption | omega | exact ⟨by assumption, by assumption⟩ | exact ⟨⟨by assumption, by assumption⟩, by assumption⟩ | exact Or.inl (by first | assumption | omega) | exact Or.inr ⟨by assumption, by assumption⟩ | (simp [bi, g9, h9]; done))]; rfl) ?_
    exact W.zret (v := bi (decide (cntA Po x N = N))) (ty := .boolean) hx hb hr (bi_n _) (fun t ht hW => ⟨rfl, ht⟩) (fun _ h => by cases h) d_D_allAvailable_17
set_option maxHeartbeats 4000000 in
set_option maxRecDepth 100000 in
theorem c_Disks_broken (l : Launch) (D : va_G) (cA : ClassId) (hd hw hp N S : Nat) (Wo Po : Fn) (gN4 : 4 ≤ N) (gN : N ≤ 10) (gS1 : 1 ≤ S) (gS : S ≤ 16) : Met l y_D_broken w_D_broken ({ frames := 0, cells := 0, slots := 0, locals := 0 }) (va_Pc [.ref hd] (k_R D [(cA, .int)] (wD cA hd hw hp N S Wo Po))) (k_Ro (some (.int (bi (decide (2 < cntB Po (nI S) N)))))) 0 0 (fun _ => False) := by
  refine Met.ofW (cc := b_D_broken) (maxL := 3) (ret := (some .boolean)) (by decide) rfl ?_
  intro p e s m args below meth c s₁ B hml hv
  obtain ⟨rfl, hP, hK⟩ := hv
  have hx := B.exec
  have hb := B.bytes
  have hr := B.returns
  have hts0 := atoms_spec (ws := w_D_broken) B.pre
  have hts : ∀ w ∈ lw_g, w.before _ s = true := fun w h => hts0 w (List.mem_cons_of_mem _ h)
  have hown : s.vm.findClass R_D = some m.cls := findClass_of_methodNamed B.named
  have hlocks := B.notSynchronized
  have hl := lv_entry ([.ref hd]) (n := 3) (Nat.le_of_ble_eq_true rfl)
  rw [lg_entry_eq]
  generalize (lg_sl ([.ref hd]) ++ List.replicate (3 - (lg_sl ([.ref hd])).length) Slot.unset).toArray = ls at hl ⊢
  have hl : lv_has ls 3 [(0, .ref hd)] := hl
  refine lv_iconst (v := 0) hx hb d_D_broken_0 (by decide) ?_
  refine lv_istore_n (lv' := [(1, .int 0), (0, .ref hd)]) hx hb d_D_broken_1 rfl hl (by decide) rfl (fun ls hl => ?_)
  refine lv_iconst (v := 0) hx hb d_D_broken_2 (by decide) ?_
  refine lv_istore_n (lv' := [(2, .int 0), (1, .int 0), (0, .ref hd)]) hx hb d_D_broken_3 rfl hl (by decide) rfl (fun ls hl => ?_)
  have L4 : ∀ (k : Nat) (i : Nat) (ls : Array Slot), i + k = N → lv_has ls 3 [(0, .ref hd), (1, .int (nI (cntB Po (nI S) i))), (2, .int (nI i))] → W p l e (headSpec w_D_broken ({ frames := 0, cells := 0, slots := 0, locals := 0 })).room s m ([.ref hd] : List Value).toArray below meth c s.heap [] 0 0 (MQ below (k_Ro (some (.int (bi (decide (2 < cntB Po (nI S) N)))))) ([.ref hd] : List Value).toArray s 0 0 (fun _ => False)) (F0 m 4 ls []) := by
    intro k
    induction k with
    | zero =>
      intro i ls hk hl
      obtain rfl : N = i := by omega
      have hcb := cntB_le Po (nI S) N
      refine lv_iload_n hx hb d_D_broken_4 rfl (lv_at hl 2 rfl) ?_
      refine lv_aload_n hx hb d_D_broken_5 rfl (lv_at hl 0 rfl) ?_
      refine va_get (D := D) (ci := 0) (v := .int (nI N)) (C := R_D) (T := T_D) (N := 4) hx hb hts (in_D) hown hK hP 0 rfl rfl 0 (by decide) (hts _ m_f_D_9) (fun _ h9 => h9) rfl d_D_broken_6 ?_
      refine lv_icmp_ge (tgt := 34) hx hb d_D_broken_9 rfl (fun g9 => ?_) (fun g9 => ?_)
      · have h9 : N ≤ N := (nI_leI (a := N) (b := N) (by omega) (by omega)).mp g9
        refine lv_iload_n hx hb d_D_broken_34 rfl (lv_at hl 1 rfl) ?_
        refine lv_iconst (v := 2) hx hb d_D_broken_35 (by decide) ?_
        refine lv_icmp_le (tgt := 43) hx hb d_D_broken_36 rfl (fun g36 => ?_) (fun g36 => ?_)
        · have h36 : (cntB Po (nI S) N) ≤ 2 := (nI_leI (a := cntB Po (nI S) N) (b := 2) (by omega) (by omega)).mp g36
          refine lv_iconst (v := 0) hx hb d_D_broken_43 (by decide) ?_
          refine k_top (bi (decide (2 < cntB Po (nI S) N))) (by rw [decide_eq_false (show ¬ ((2 < cntB Po (nI S) N)) by first | assumption | omega | exact fun z => g9 z.1 | exact fun z => g9 z.2 | exact fun z => z.elim (fun z => by omega) (fun z => g9 z.1) | exact fun z => z.elim (fun z => by omega) (fun z => g9 z.2) | exact fun z => h9 z.1 | exact fun z => h9 z.2 | exact fun z => z.elim (fun z => by omega) (fun z => h9 z.1) | exact fun z => z.elim (fun z => by omega) (fun z => h9 z.2) | exact fun z => g36 z.1 | exact fun z => g36 z.2 | exact fun z => z.elim (fun z => by omega) (fun z => g36 z.1) | exact fun z => z.elim (fun z => by omega) (fun z => g36 z.2) | exact fun z => h36 z.1 | exact fun z => h36 z.2 | exact fun z => z.elim (fun z => by omega) (fun z => h36 z.1) | exact fun z => z.elim (fun z => by omega) (fun z => h36 z.2) | (simp [cntB, bi, g9, h9, g36, h36]; done))]; rfl) ?_
          exact W.zret (v := bi (decide (2 < cntB Po (nI S) N))) (ty := .boolean) hx hb hr (bi_n _) (fun t ht hW => ⟨rfl, ht⟩) (fun _ h => by cases h) d_D_broken_44
        · have h36 : ¬ (cntB Po (nI S) N) ≤ 2 := fun z => g36 ((nI_leI (a := cntB Po (nI S) N) (b := 2) (by omega) (by omega)).mpr z)
          refine lv_iconst (v := 1) hx hb d_D_broken_39 (by decide) ?_
          refine lv_goto hx hb d_D_broken_40 rfl ?_
          refine k_top (bi (decide (2 < cntB Po (nI S) N))) (by rw [decide_eq_true (show (2 < cntB Po (nI S) N) by first | assumption | omega | exact ⟨by assumption, by assumption⟩ | exact ⟨⟨by assumption, by assumption⟩, by assumption⟩ | exact Or.inl (by first | assumption | omega) | exact Or.inr ⟨by assumption, by assumption⟩ | (simp [cntB, bi, g9, h9, g36, h36]; done))]; rfl) ?_
          exact W.zret (v := bi (decide (2 < cntB Po (nI S) N))) (ty := .boolean) hx hb hr (bi_n _) (fun t ht hW => ⟨rfl, ht⟩) (fun _ h => by cases h) d_D_broken_44
      · have h9 : ¬ N ≤ N := fun z => g9 ((nI_leI (a := N) (b := N) (by omega) (by omega)).mpr z)
        exfalso; omega
    | succ k ih =>
      intro i ls hk hl
      have hcb := cntB_le Po (nI S) i
      refine lv_iload_n hx hb d_D_broken_4 rfl (lv_at hl 2 rfl) ?_
      refine lv_aload_n hx hb d_D_broken_5 rfl (lv_at hl 0 rfl) ?_
      refine va_get (D := D) (ci := 0) (v := .int (nI N)) (C := R_D) (T := T_D) (N := 4) hx hb hts (in_D) hown hK hP 0 rfl rfl 0 (by decide) (hts _ m_f_D_9) (fun _ h9 => h9) rfl d_D_broken_6 ?_
      refine lv_icmp_ge (tgt := 34) hx hb d_D_broken_9 rfl (fun g9 => ?_) (fun g9 => ?_)
      · have h9 : N ≤ i := (nI_leI (a := N) (b := i) (by omega) (by omega)).mp g9
        exfalso; omega
      · have h9 : ¬ N ≤ i := fun z => g9 ((nI_leI (a := N) (b := i) (by omega) (by omega)).mpr z)
        refine lv_aload_n hx hb d_D_broken_12 rfl (lv_at hl 0 rfl) ?_
        refine va_get (D := D) (ci := 0) (v := .ref hp) (C := R_D) (T := T_D) (N := 4) hx hb hts (in_D) hown hK hP 0 rfl rfl 3 (by decide) (hts _ m_f_D_22) (fun _ h9 => h9) rfl d_D_broken_13 ?_
        refine lv_iload_n hx hb d_D_broken_16 rfl (lv_at hl 2 rfl) ?_
        refine va_iald (n := N) (f := Po) hx hb hK hP 2 0 rfl rfl (vp_in_nI (by omega) (by omega)) d_D_broken_17 ?_
        refine k_top (Po i) (by rw [show (nI i : Int32).toNatClampNeg = i from nI_clamp (n := i) (by omega)]) ?_
        refine lv_aload_n hx hb d_D_broken_18 rfl (lv_at hl 0 rfl) ?_
        refine va_get (D := D) (ci := 0) (v := .int (nI S)) (C := R_D) (T := T_D) (N := 4) hx hb hts (in_D) hown hK hP 0 rfl rfl 1 (by decide) (hts _ m_f_D_15) (fun _ h9 => h9) rfl d_D_broken_19 ?_
        refine lv_icmp_ge (tgt := 28) hx hb d_D_broken_22 rfl (fun g22 => ?_) (fun g22 => ?_)
        · have h22 := Int32.not_lt.mpr g22
          refine lv_iinc (k := 2) (v := nI (i + 1)) (lv' := [(2, .int (nI (i + 1))), (0, .ref hd), (1, .int (nI (cntB Po (nI S) i)))]) hx hb d_D_broken_28 hl rfl (nI_add i 1) (by decide) rfl (fun ls hl => ?_)
          refine lv_goto hx hb d_D_broken_31 rfl ?_
          have e1 : nI (cntB Po (nI S) (i + 1)) = nI (cntB Po (nI S) i) := by first | rfl | (simp [cntB, bi, g9, h9, g22, h22]; done) | omega
          exact ih (i + 1) ls (by omega) (by rw [e1]; exact lv_sub hl [1, 2, 0] rfl)
        · have h22 := Int32.not_le.mp g22
          refine lv_iinc (k := 1) (v := nI (cntB Po (nI S) i + 1)) (lv' := [(1, .int (nI (cntB Po (nI S) i + 1))), (0, .ref hd), (2, .int (nI i))]) hx hb d_D_broken_25 hl rfl (nI_add (cntB Po (nI S) i) 1) (by decide) rfl (fun ls hl => ?_)
          refine lv_iinc (k := 2) (v := nI (i + 1)) (lv' := [(2, .int (nI (i + 1))), (1, .int (nI (cntB Po (nI S) i + 1))), (0, .ref hd)]) hx hb d_D_broken_28 hl rfl (nI_add i 1) (by decide) rfl (fun ls hl => ?_)
          refine lv_goto hx hb d_D_broken_31 rfl ?_
          have e2 : nI (cntB Po (nI S) (i + 1)) = nI (cntB Po (nI S) i + 1) := by first | rfl | (simp [cntB, bi, g9, h9, g22, h22]; done) | omega
          exact ih (i + 1) ls (by omega) (by rw [e2]; exact lv_sub hl [2, 1, 0] rfl)
  have e3 : nI (cntB Po (nI S) 0) = 0 := by first | rfl | (simp [cntB, bi]; done) | omega
  have e4 : nI 0 = 0 := by first | rfl | (simp [cntB, bi]; done) | omega
  exact L4 N 0 ls (by omega) (by rw [e3, e4]; exact lv_sub hl [2, 1, 0] rfl)
set_option maxHeartbeats 4000000 in
set_option maxRecDepth 100000 in
theorem c_Disks_missing (l : Launch) (D : va_G) (cA : ClassId) (hd hw hp N S : Nat) (Wo Po : Fn) (gN4 : 4 ≤ N) (gN : N ≤ 10) (gS1 : 1 ≤ S) (gS : S ≤ 16) (a : Nat) (ha : a < N) : Met l y_D_missing w_D_missing ({ frames := 0, cells := 0, slots := 0, locals := 0 }) (va_Pc [.ref hd, .int (nI a)] (k_R D [(cA, .int)] (wD cA hd hw hp N S Wo Po))) (k_Ro (some (.int (bi (decide (Po a = -1)))))) 0 0 (fun _ => False) := by
  refine Met.ofW (cc := b_D_missing) (maxL := 2) (ret := (some .boolean)) (by decide) rfl ?_
  intro p e s m args below meth c s₁ B hml hv
  obtain ⟨rfl, hP, hK⟩ := hv
  have hx := B.exec
  have hb := B.bytes
  have hr := B.returns
  have hts0 := atoms_spec (ws := w_D_missing) B.pre
  have hts : ∀ w ∈ lw_g, w.before _ s = true := fun w h => hts0 w (List.mem_cons_of_mem _ h)
  have hown : s.vm.findClass R_D = some m.cls := findClass_of_methodNamed B.named
  have hlocks := B.notSynchronized
  have hl := lv_entry ([.ref hd, .int (nI a)]) (n := 2) (Nat.le_of_ble_eq_true rfl)
  rw [lg_entry_eq]
  generalize (lg_sl ([.ref hd, .int (nI a)]) ++ List.replicate (2 - (lg_sl ([.ref hd, .int (nI a)])).length) Slot.unset).toArray = ls at hl ⊢
  have hl : lv_has ls 2 [(0, .ref hd), (1, .int (nI a))] := hl
  refine lv_aload_n hx hb d_D_missing_0 rfl (lv_at hl 0 rfl) ?_
  refine va_get (D := D) (ci := 0) (v := .ref hp) (C := R_D) (T := T_D) (N := 4) hx hb hts (in_D) hown hK hP 0 rfl rfl 3 (by decide) (hts _ m_f_D_22) (fun _ h9 => h9) rfl d_D_missing_1 ?_
  refine lv_iload_n hx hb d_D_missing_4 rfl (lv_at hl 1 rfl) ?_
  refine va_iald (n := N) (f := Po) hx hb hK hP 2 0 rfl rfl (vp_in_nI (by omega) (by omega)) d_D_missing_5 ?_
  refine k_top (Po a) (by rw [show (nI a : Int32).toNatClampNeg = a from nI_clamp (n := a) (by omega)]) ?_
  refine lv_iconst (v := (-1)) hx hb d_D_missing_6 (by decide) ?_
  refine lv_icmp_ne (tgt := 14) hx hb d_D_missing_7 rfl (fun g7 => ?_) (fun g7 => ?_)
  · refine lv_iconst (v := 0) hx hb d_D_missing_14 (by decide) ?_
    refine k_top (bi (decide (Po a = -1))) (by rw [decide_eq_false (show ¬ ((Po a = -1)) by first | assumption | omega | exact fun z => g7 z.1 | exact fun z => g7 z.2 | exact fun z => z.elim (fun z => by omega) (fun z => g7 z.1) | exact fun z => z.elim (fun z => by omega) (fun z => g7 z.2) | (simp [bi, g7]; done))]; rfl) ?_
    exact W.zret (v := bi (decide (Po a = -1))) (ty := .boolean) hx hb hr (bi_n _) (fun t ht hW => ⟨rfl, ht⟩) (fun _ h => by cases h) d_D_missing_15
  · refine lv_iconst (v := 1) hx hb d_D_missing_10 (by decide) ?_
    refine lv_goto hx hb d_D_missing_11 rfl ?_
    refine k_top (bi (decide (Po a = -1))) (by rw [decide_eq_true (show (Po a = -1) by first | assumption | omega | exact ⟨by assumption, by assumption⟩ | exact ⟨⟨by assumption, by assumption⟩, by assumption⟩ | exact Or.inl (by first | assumption | omega) | exact Or.inr ⟨by assumption, by assumption⟩ | (simp [bi, g7]; done))]; rfl) ?_
    exact W.zret (v := bi (decide (Po a = -1))) (ty := .boolean) hx hb hr (bi_n _) (fun t ht hW => ⟨rfl, ht⟩) (fun _ h => by cases h) d_D_missing_15
set_option maxHeartbeats 4000000 in
set_option maxRecDepth 100000 in
theorem c_Disks_positionOf (l : Launch) (D : va_G) (cA : ClassId) (hd hw hp N S : Nat) (Wo Po : Fn) (gN4 : 4 ≤ N) (gN : N ≤ 10) (gS1 : 1 ≤ S) (gS : S ≤ 16) (a : Nat) (ha : a < N) : Met l y_D_positionOf w_D_positionOf ({ frames := 0, cells := 0, slots := 0, locals := 0 }) (va_Pc [.ref hd, .int (nI a)] (k_R D [(cA, .int)] (wD cA hd hw hp N S Wo Po))) (k_Ro (some (.int (Po a)))) 0 0 (fun _ => False) := by
  refine Met.ofW (cc := b_D_positionOf) (maxL := 2) (ret := (some .int)) (by decide) rfl ?_
  intro p e s m args below meth c s₁ B hml hv
  obtain ⟨rfl, hP, hK⟩ := hv
  have hx := B.exec
  have hb := B.bytes
  have hr := B.returns
  have hts0 := atoms_spec (ws := w_D_positionOf) B.pre
  have hts : ∀ w ∈ lw_g, w.before _ s = true := fun w h => hts0 w (List.mem_cons_of_mem _ h)
  have hown : s.vm.findClass R_D = some m.cls := findClass_of_methodNamed B.named
  have hlocks := B.notSynchronized
  have hl := lv_entry ([.ref hd, .int (nI a)]) (n := 2) (Nat.le_of_ble_eq_true rfl)
  rw [lg_entry_eq]
  generalize (lg_sl ([.ref hd, .int (nI a)]) ++ List.replicate (2 - (lg_sl ([.ref hd, .int (nI a)])).length) Slot.unset).toArray = ls at hl ⊢
  have hl : lv_has ls 2 [(0, .ref hd), (1, .int (nI a))] := hl
  refine lv_aload_n hx hb d_D_positionOf_0 rfl (lv_at hl 0 rfl) ?_
  refine va_get (D := D) (ci := 0) (v := .ref hp) (C := R_D) (T := T_D) (N := 4) hx hb hts (in_D) hown hK hP 0 rfl rfl 3 (by decide) (hts _ m_f_D_22) (fun _ h9 => h9) rfl d_D_positionOf_1 ?_
  refine lv_iload_n hx hb d_D_positionOf_4 rfl (lv_at hl 1 rfl) ?_
  refine va_iald (n := N) (f := Po) hx hb hK hP 2 0 rfl rfl (vp_in_nI (by omega) (by omega)) d_D_positionOf_5 ?_
  refine k_top (Po a) (by rw [show (nI a : Int32).toNatClampNeg = a from nI_clamp (n := a) (by omega)]) ?_
  exact W.iret (v := Po a) hx hb hr (fun t ht hW => ⟨rfl, ht⟩) (fun _ h => by cases h) d_D_positionOf_6
set_option maxHeartbeats 4000000 in
set_option maxRecDepth 100000 in
theorem c_Disks_remove (l : Launch) (D : va_G) (cA : ClassId) (hd hw hp N S : Nat) (Wo Po : Fn) (gN4 : 4 ≤ N) (gN : N ≤ 10) (gS1 : 1 ≤ S) (gS : S ≤ 16) (a : Nat) (ha : a < N) : Met l y_D_remove w_D_remove ({ frames := 0, cells := 0, slots := 0, locals := 0 }) (va_Pc [.ref hd, .int (nI a)] (k_Wc D [(cA, .int)] (wD cA hd hw hp N S Wo Po))) (va_Qv (fun (_ : Unit) => True) (fun _ t => va_P D vwCl (wD cA hd hw hp N S Wo (upd Po a (-1))) t.heap) (k_A (wD cA hd hw hp N S Wo Po))) 0 0 (k_A (wD cA hd hw hp N S Wo Po)) := by
  refine Met.ofW (cc := b_D_remove) (maxL := 2) (ret := none) (by decide) rfl ?_
  intro p e s m args below meth c s₁ B hml hv
  obtain ⟨rfl, hP, hK, hD0⟩ := hv
  have hx := B.exec
  have hb := B.bytes
  have hr := B.returns
  have hts0 := atoms_spec (ws := w_D_remove) B.pre
  have hts : ∀ w ∈ lw_g, w.before _ s = true := fun w h => hts0 w (List.mem_cons_of_mem _ h)
  have hown : s.vm.findClass R_D = some m.cls := findClass_of_methodNamed B.named
  have hlocks := B.notSynchronized
  have hD := k_Dself hD0
  have hS : va_S (k_A (wD cA hd hw hp N S Wo Po)) s.heap s.heap [] := va_S.rf
  have hl := lv_entry ([.ref hd, .int (nI a)]) (n := 2) (Nat.le_of_ble_eq_true rfl)
  rw [lg_entry_eq]
  generalize (lg_sl ([.ref hd, .int (nI a)]) ++ List.replicate (2 - (lg_sl ([.ref hd, .int (nI a)])).length) Slot.unset).toArray = ls at hl ⊢
  have hl : lv_has ls 2 [(0, .ref hd), (1, .int (nI a))] := hl
  refine lv_aload_n hx hb d_D_remove_0 rfl (lv_at hl 0 rfl) ?_
  refine va_get (D := D) (ci := 0) (v := .ref hp) (C := R_D) (T := T_D) (N := 4) hx hb hts (in_D) hown hK hP 0 rfl rfl 3 (by decide) (hts _ m_f_D_22) (fun _ h9 => h9) rfl d_D_remove_1 ?_
  refine lv_iload_n hx hb d_D_remove_4 rfl (lv_at hl 1 rfl) ?_
  refine lv_iconst (v := (-1)) hx hb d_D_remove_5 (by decide) ?_
  refine va_iast (n := N) (f := Po) hx hb hK hP hD hS 2 0 rfl rfl (vp_in_nI (by omega) (by omega)) d_D_remove_6 (fun H locs hP hD hS => ?_)
  rw [show (nI a : Int32).toNatClampNeg = a from nI_clamp (n := a) (by omega)] at hP hD
  have hP : va_P D vwCl (wD cA hd hw hp N S Wo (upd Po a (-1))) H := hP
  have hD : va_D (k_A (wD cA hd hw hp N S Wo Po)) (wD cA hd hw hp N S Wo (upd Po a (-1))) := hD
  exact W.vret hx hb hr (fun t ht hW => ⟨⟨(), rfl, trivial, by show va_P D vwCl (wD cA hd hw hp N S Wo (upd Po a (-1))) t.heap; rw [ht]; exact hP⟩, hS.F ht⟩) hS.2.2 d_D_remove_7
set_option maxHeartbeats 4000000 in
set_option maxRecDepth 100000 in
theorem c_Disks_beginRebuilding (l : Launch) (D : va_G) (cA : ClassId) (hd hw hp N S : Nat) (Wo Po : Fn) (gN4 : 4 ≤ N) (gN : N ≤ 10) (gS1 : 1 ≤ S) (gS : S ≤ 16) (a : Nat) (ha : a < N) : Met l y_D_beginRebuilding w_D_beginRebuilding ({ frames := 0, cells := 0, slots := 0, locals := 0 }) (va_Pc [.ref hd, .int (nI a)] (k_Wc D [(cA, .int)] (wD cA hd hw hp N S Wo Po))) (va_Qv (fun (_ : Unit) => True) (fun _ t => va_P D vwCl (wD cA hd hw hp N S Wo (upd Po a 0)) t.heap) (k_A (wD cA hd hw hp N S Wo Po))) 0 0 (k_A (wD cA hd hw hp N S Wo Po)) := by
  refine Met.ofW (cc := b_D_beginRebuilding) (maxL := 2) (ret := none) (by decide) rfl ?_
  intro p e s m args below meth c s₁ B hml hv
  obtain ⟨rfl, hP, hK, hD0⟩ := hv
  have hx := B.exec
  have hb := B.bytes
  have hr := B.returns
  have hts0 := atoms_spec (ws := w_D_beginRebuilding) B.pre
  have hts : ∀ w ∈ lw_g, w.before _ s = true := fun w h => hts0 w (List.mem_cons_of_mem _ h)
  have hown : s.vm.findClass R_D = some m.cls := findClass_of_methodNamed B.named
  have hlocks := B.notSynchronized
  have hD := k_Dself hD0
  have hS : va_S (k_A (wD cA hd hw hp N S Wo Po)) s.heap s.heap [] := va_S.rf
  have hl := lv_entry ([.ref hd, .int (nI a)]) (n := 2) (Nat.le_of_ble_eq_true rfl)
  rw [lg_entry_eq]
  generalize (lg_sl ([.ref hd, .int (nI a)]) ++ List.replicate (2 - (lg_sl ([.ref hd, .int (nI a)])).length) Slot.unset).toArray = ls at hl ⊢
  have hl : lv_has ls 2 [(0, .ref hd), (1, .int (nI a))] := hl
  refine lv_aload_n hx hb d_D_beginRebuilding_0 rfl (lv_at hl 0 rfl) ?_
  refine va_get (D := D) (ci := 0) (v := .ref hp) (C := R_D) (T := T_D) (N := 4) hx hb hts (in_D) hown hK hP 0 rfl rfl 3 (by decide) (hts _ m_f_D_22) (fun _ h9 => h9) rfl d_D_beginRebuilding_1 ?_
  refine lv_iload_n hx hb d_D_beginRebuilding_4 rfl (lv_at hl 1 rfl) ?_
  refine lv_iconst (v := 0) hx hb d_D_beginRebuilding_5 (by decide) ?_
  refine va_iast (n := N) (f := Po) hx hb hK hP hD hS 2 0 rfl rfl (vp_in_nI (by omega) (by omega)) d_D_beginRebuilding_6 (fun H locs hP hD hS => ?_)
  rw [show (nI a : Int32).toNatClampNeg = a from nI_clamp (n := a) (by omega)] at hP hD
  have hP : va_P D vwCl (wD cA hd hw hp N S Wo (upd Po a 0)) H := hP
  have hD : va_D (k_A (wD cA hd hw hp N S Wo Po)) (wD cA hd hw hp N S Wo (upd Po a 0)) := hD
  exact W.vret hx hb hr (fun t ht hW => ⟨⟨(), rfl, trivial, by show va_P D vwCl (wD cA hd hw hp N S Wo (upd Po a 0)) t.heap; rw [ht]; exact hP⟩, hS.F ht⟩) hS.2.2 d_D_beginRebuilding_7
set_option maxHeartbeats 4000000 in
set_option maxRecDepth 100000 in
theorem c_Disks_advance (l : Launch) (D : va_G) (cA : ClassId) (hd hw hp N S : Nat) (Wo Po : Fn) (gN4 : 4 ≤ N) (gN : N ≤ 10) (gS1 : 1 ≤ S) (gS : S ≤ 16) (a : Nat) (ha : a < N) : Met l y_D_advance w_D_advance ({ frames := 0, cells := 0, slots := 0, locals := 0 }) (va_Pc [.ref hd, .int (nI a)] (k_Wc D [(cA, .int)] (wD cA hd hw hp N S Wo Po))) (va_Qv (fun (_ : Unit) => True) (fun _ t => va_P D vwCl (wD cA hd hw hp N S Wo (upd Po a (Po a + 1))) t.heap) (k_A (wD cA hd hw hp N S Wo Po))) 0 0 (k_A (wD cA hd hw hp N S Wo Po)) := by
  refine Met.ofW (cc := b_D_advance) (maxL := 2) (ret := none) (by decide) rfl ?_
  intro p e s m args below meth c s₁ B hml hv
  obtain ⟨rfl, hP, hK, hD0⟩ := hv
  have hx := B.exec
  have hb := B.bytes
  have hr := B.returns
  have hts0 := atoms_spec (ws := w_D_advance) B.pre
  have hts : ∀ w ∈ lw_g, w.before _ s = true := fun w h => hts0 w (List.mem_cons_of_mem _ h)
  have hown : s.vm.findClass R_D = some m.cls := findClass_of_methodNamed B.named
  have hlocks := B.notSynchronized
  have hD := k_Dself hD0
  have hS : va_S (k_A (wD cA hd hw hp N S Wo Po)) s.heap s.heap [] := va_S.rf
  have hl := lv_entry ([.ref hd, .int (nI a)]) (n := 2) (Nat.le_of_ble_eq_true rfl)
  rw [lg_entry_eq]
  generalize (lg_sl ([.ref hd, .int (nI a)]) ++ List.replicate (2 - (lg_sl ([.ref hd, .int (nI a)])).length) Slot.unset).toArray = ls at hl ⊢
  have hl : lv_has ls 2 [(0, .ref hd), (1, .int (nI a))] := hl
  refine lv_aload_n hx hb d_D_advance_0 rfl (lv_at hl 0 rfl) ?_
  refine va_get (D := D) (ci := 0) (v := .ref hp) (C := R_D) (T := T_D) (N := 4) hx hb hts (in_D) hown hK hP 0 rfl rfl 3 (by decide) (hts _ m_f_D_22) (fun _ h9 => h9) rfl d_D_advance_1 ?_
  refine lv_iload_n hx hb d_D_advance_4 rfl (lv_at hl 1 rfl) ?_
  refine lv_dup2_11 hx hb d_D_advance_5 rfl rfl ?_
  refine va_iald (n := N) (f := Po) hx hb hK hP 2 0 rfl rfl (vp_in_nI (by omega) (by omega)) d_D_advance_6 ?_
  refine k_top (Po a) (by rw [show (nI a : Int32).toNatClampNeg = a from nI_clamp (n := a) (by omega)]) ?_
  refine lv_iconst (v := 1) hx hb d_D_advance_7 (by decide) ?_
  refine lv_iadd hx hb d_D_advance_8 ?_
  refine va_iast (n := N) (f := Po) hx hb hK hP hD hS 2 0 rfl rfl (vp_in_nI (by omega) (by omega)) d_D_advance_9 (fun H locs hP hD hS => ?_)
  rw [show (nI a : Int32).toNatClampNeg = a from nI_clamp (n := a) (by omega)] at hP hD
  have hP : va_P D vwCl (wD cA hd hw hp N S Wo (upd Po a ((Po a) + 1))) H := hP
  have hD : va_D (k_A (wD cA hd hw hp N S Wo Po)) (wD cA hd hw hp N S Wo (upd Po a ((Po a) + 1))) := hD
  have e1 : upd Po a (Po a + 1) = upd Po a ((Po a) + 1) := by first | rfl | (simp []; done) | omega
  exact W.vret hx hb hr (fun t ht hW => ⟨⟨(), rfl, trivial, by show va_P D vwCl (wD cA hd hw hp N S Wo (upd Po a (Po a + 1))) t.heap; rw [ht, e1]; exact hP⟩, hS.F ht⟩) hS.2.2 d_D_advance_10
set_option maxHeartbeats 4000000 in
set_option maxRecDepth 100000 in
theorem c_Disks_nextToRebuild (l : Launch) (D : va_G) (cA : ClassId) (hd hw hp N S : Nat) (Wo Po : Fn) (gN4 : 4 ≤ N) (gN : N ≤ 10) (gS1 : 1 ≤ S) (gS : S ≤ 16) : Met l y_D_nextToRebuild w_D_nextToRebuild ({ frames := 1, cells := 0, slots := 0, locals := 21 }) (va_Pc [.ref hd] (k_R D [(cA, .int)] (wD cA hd hw hp N S Wo Po))) (k_Ro (some (.int ((nxt Po S N).1)))) 0 0 (fun _ => False) := by
  refine Met.ofW (cc := b_D_nextToRebuild) (maxL := 4) (ret := (some .int)) (by decide) rfl ?_
  intro p e s m args below meth c s₁ B hml hv
  obtain ⟨rfl, hP, hK⟩ := hv
  have hx := B.exec
  have hb := B.bytes
  have hr := B.returns
  have hts0 := atoms_spec (ws := w_D_nextToRebuild) B.pre
  have hts : ∀ w ∈ lw_g, w.before _ s = true := fun w h => hts0 w (List.mem_cons_of_mem _ h)
  have hown : s.vm.findClass R_D = some m.cls := findClass_of_methodNamed B.named
  have hlocks := B.notSynchronized
  have hl := lv_entry ([.ref hd]) (n := 4) (Nat.le_of_ble_eq_true rfl)
  rw [lg_entry_eq]
  generalize (lg_sl ([.ref hd]) ++ List.replicate (4 - (lg_sl ([.ref hd])).length) Slot.unset).toArray = ls at hl ⊢
  have hl : lv_has ls 4 [(0, .ref hd)] := hl
  refine lv_iconst (v := (-1)) hx hb d_D_nextToRebuild_0 (by decide) ?_
  refine lv_istore_n (lv' := [(1, .int (-1)), (0, .ref hd)]) hx hb d_D_nextToRebuild_1 rfl hl (by decide) rfl (fun ls hl => ?_)
  refine lv_aload_n hx hb d_D_nextToRebuild_2 rfl (lv_at hl 1 rfl) ?_
  refine va_get (D := D) (ci := 0) (v := .int (nI S)) (C := R_D) (T := T_D) (N := 4) hx hb hts (in_D) hown hK hP 0 rfl rfl 1 (by decide) (hts _ m_f_D_15) (fun _ h9 => h9) rfl d_D_nextToRebuild_3 ?_
  refine lv_istore_n (lv' := [(2, .int (nI S)), (1, .int (-1)), (0, .ref hd)]) hx hb d_D_nextToRebuild_6 rfl hl (by decide) rfl (fun ls hl => ?_)
  refine lv_iconst (v := 0) hx hb d_D_nextToRebuild_7 (by decide) ?_
  refine lv_istore_n (lv' := [(3, .int 0), (2, .int (nI S)), (1, .int (-1)), (0, .ref hd)]) hx hb d_D_nextToRebuild_8 rfl hl (by decide) rfl (fun ls hl => ?_)
  have L9 : ∀ (k : Nat) (i : Nat) (ls : Array Slot), i + k = N → lv_has ls 4 [(0, .ref hd), (1, .int ((nxt Po S i).1)), (2, .int ((nxt Po S i).2)), (3, .int (nI i))] → W p l e (headSpec w_D_nextToRebuild ({ frames := 1, cells := 0, slots := 0, locals := 21 })).room s m ([.ref hd] : List Value).toArray below meth c s.heap [] 0 0 (MQ below (k_Ro (some (.int ((nxt Po S N).1)))) ([.ref hd] : List Value).toArray s 0 0 (fun _ => False)) (F0 m 9 ls []) := by
    intro k
    induction k with
    | zero =>
      intro i ls hk hl
      obtain rfl : N = i := by omega
      refine lv_iload_n hx hb d_D_nextToRebuild_9 rfl (lv_at hl 3 rfl) ?_
      refine lv_aload_n hx hb d_D_nextToRebuild_10 rfl (lv_at hl 0 rfl) ?_
      refine va_get (D := D) (ci := 0) (v := .int (nI N)) (C := R_D) (T := T_D) (N := 4) hx hb hts (in_D) hown hK hP 0 rfl rfl 0 (by decide) (hts _ m_f_D_9) (fun _ h9 => h9) rfl d_D_nextToRebuild_11 ?_
      refine lv_icmp_ge (tgt := 50) hx hb d_D_nextToRebuild_14 rfl (fun g14 => ?_) (fun g14 => ?_)
      · have h14 : N ≤ N := (nI_leI (a := N) (b := N) (by omega) (by omega)).mp g14
        refine lv_iload_n hx hb d_D_nextToRebuild_50 rfl (lv_at hl 1 rfl) ?_
        exact W.iret (v := (nxt Po S N).1) hx hb hr (fun t ht hW => ⟨rfl, ht⟩) (fun _ h => by cases h) d_D_nextToRebuild_51
      · have h14 : ¬ N ≤ N := fun z => g14 ((nI_leI (a := N) (b := N) (by omega) (by omega)).mpr z)
        exfalso; omega
    | succ k ih =>
      intro i ls hk hl
      refine lv_iload_n hx hb d_D_nextToRebuild_9 rfl (lv_at hl 3 rfl) ?_
      refine lv_aload_n hx hb d_D_nextToRebuild_10 rfl (lv_at hl 0 rfl) ?_
      refine va_get (D := D) (ci := 0) (v := .int (nI N)) (C := R_D) (T := T_D) (N := 4) hx hb hts (in_D) hown hK hP 0 rfl rfl 0 (by decide) (hts _ m_f_D_9) (fun _ h9 => h9) rfl d_D_nextToRebuild_11 ?_
      refine lv_icmp_ge (tgt := 50) hx hb d_D_nextToRebuild_14 rfl (fun g14 => ?_) (fun g14 => ?_)
      · have h14 : N ≤ i := (nI_leI (a := N) (b := i) (by omega) (by omega)).mp g14
        exfalso; omega
      · have h14 : ¬ N ≤ i := fun z => g14 ((nI_leI (a := N) (b := i) (by omega) (by omega)).mpr z)
        refine lv_aload_n hx hb d_D_nextToRebuild_17 rfl (lv_at hl 0 rfl) ?_
        refine lv_iload_n hx hb d_D_nextToRebuild_18 rfl (lv_at hl 3 rfl) ?_
        refine k_roi (va_runV (C := R_D) (As := [.int (nI i)]) (rest := []) ⟨hx, hb, hml, hown, hts⟩ (c_Disks_missing l D cA hd hw hp N S Wo Po (by omega) (by omega) (by omega) (by omega) i (by omega)) (k_cwV 1 hts m_code_D_missing m_ini_D m_l_D_43 m_inst_D_missing m_sel_D_missing h_D_missing rfl rfl ⟨Nat.le_of_ble_eq_true rfl, Nat.le_of_ble_eq_true rfl⟩) (k_pR hP hK [0, 1, 2] rfl 0 0 rfl rfl) rfl rfl hl.1 rfl (lv_room (Nat.le_of_ble_eq_true rfl)) d_D_nextToRebuild_19 ⟨Nat.zero_le _, Nat.zero_le _⟩) ?_
        refine lv_if_ne (tgt := 44) hx hb d_D_nextToRebuild_22 rfl (fun g22 => ?_) (fun g22 => ?_)
        · have h22 := of_decide_eq_true (bi_nz.mp g22)
          refine lv_iinc (k := 3) (v := nI (i + 1)) (lv' := [(3, .int (nI (i + 1))), (0, .ref hd), (1, .int ((nxt Po S i).1)), (2, .int ((nxt Po S i).2))]) hx hb d_D_nextToRebuild_44 hl rfl (nI_add i 1) (by decide) rfl (fun ls hl => ?_)
          refine lv_goto hx hb d_D_nextToRebuild_47 rfl ?_
          have e1 : (nxt Po S (i + 1)).1 = (nxt Po S i).1 := by first | rfl | (simp [nxt, g14, h14, g22, h22]; done) | omega
          have e2 : (nxt Po S (i + 1)).2 = (nxt Po S i).2 := by first | rfl | (simp [nxt, g14, h14, g22, h22]; done) | omega
          exact ih (i + 1) ls (by omega) (by rw [e1, e2]; exact lv_sub hl [1, 2, 3, 0] rfl)
        · have h22 := of_decide_eq_false (bi_z.mp g22)
          refine lv_aload_n hx hb d_D_nextToRebuild_25 rfl (lv_at hl 0 rfl) ?_
          refine va_get (D := D) (ci := 0) (v := .ref hp) (C := R_D) (T := T_D) (N := 4) hx hb hts (in_D) hown hK hP 0 rfl rfl 3 (by decide) (hts _ m_f_D_22) (fun _ h9 => h9) rfl d_D_nextToRebuild_26 ?_
          refine lv_iload_n hx hb d_D_nextToRebuild_29 rfl (lv_at hl 3 rfl) ?_
          refine va_iald (n := N) (f := Po) hx hb hK hP 2 0 rfl rfl (vp_in_nI (by omega) (by omega)) d_D_nextToRebuild_30 ?_
          refine k_top (Po i) (by rw [show (nI i : Int32).toNatClampNeg = i from nI_clamp (n := i) (by omega)]) ?_
          refine lv_iload_n hx hb d_D_nextToRebuild_31 rfl (lv_at hl 2 rfl) ?_
          refine lv_icmp_ge (tgt := 44) hx hb d_D_nextToRebuild_32 rfl (fun g32 => ?_) (fun g32 => ?_)
          · have h32 := Int32.not_lt.mpr g32
            refine lv_iinc (k := 3) (v := nI (i + 1)) (lv' := [(3, .int (nI (i + 1))), (0, .ref hd), (1, .int ((nxt Po S i).1)), (2, .int ((nxt Po S i).2))]) hx hb d_D_nextToRebuild_44 hl rfl (nI_add i 1) (by decide) rfl (fun ls hl => ?_)
            refine lv_goto hx hb d_D_nextToRebuild_47 rfl ?_
            have e3 : (nxt Po S (i + 1)).1 = (nxt Po S i).1 := by first | rfl | (simp [nxt, g14, h14, g22, h22, g32, h32]; done) | omega
            have e4 : (nxt Po S (i + 1)).2 = (nxt Po S i).2 := by first | rfl | (simp [nxt, g14, h14, g22, h22, g32, h32]; done) | omega
            exact ih (i + 1) ls (by omega) (by rw [e3, e4]; exact lv_sub hl [1, 2, 3, 0] rfl)
          · have h32 := Int32.not_le.mp g32
            refine lv_iload_n hx hb d_D_nextToRebuild_35 rfl (lv_at hl 3 rfl) ?_
            refine lv_istore_n (lv' := [(1, .int (nI i)), (0, .ref hd), (2, .int ((nxt Po S i).2)), (3, .int (nI i))]) hx hb d_D_nextToRebuild_36 rfl hl (by decide) rfl (fun ls hl => ?_)
            refine lv_aload_n hx hb d_D_nextToRebuild_37 rfl (lv_at hl 1 rfl) ?_
            refine va_get (D := D) (ci := 0) (v := .ref hp) (C := R_D) (T := T_D) (N := 4) hx hb hts (in_D) hown hK hP 0 rfl rfl 3 (by decide) (hts _ m_f_D_22) (fun _ h9 => h9) rfl d_D_nextToRebuild_38 ?_
            refine lv_iload_n hx hb d_D_nextToRebuild_41 rfl (lv_at hl 3 rfl) ?_
            refine va_iald (n := N) (f := Po) hx hb hK hP 2 0 rfl rfl (vp_in_nI (by omega) (by omega)) d_D_nextToRebuild_42 ?_
            refine k_top (Po i) (by rw [show (nI i : Int32).toNatClampNeg = i from nI_clamp (n := i) (by omega)]) ?_
            refine lv_istore_n (lv' := [(2, .int (Po i)), (1, .int (nI i)), (0, .ref hd), (3, .int (nI i))]) hx hb d_D_nextToRebuild_43 rfl hl (by decide) rfl (fun ls hl => ?_)
            refine lv_iinc (k := 3) (v := nI (i + 1)) (lv' := [(3, .int (nI (i + 1))), (2, .int (Po i)), (1, .int (nI i)), (0, .ref hd)]) hx hb d_D_nextToRebuild_44 hl rfl (nI_add i 1) (by decide) rfl (fun ls hl => ?_)
            refine lv_goto hx hb d_D_nextToRebuild_47 rfl ?_
            have e5 : (nxt Po S (i + 1)).1 = nI i := by first | rfl | (simp [nxt, g14, h14, g22, h22, g32, h32]; done) | omega
            have e6 : (nxt Po S (i + 1)).2 = Po i := by first | rfl | (simp [nxt, g14, h14, g22, h22, g32, h32]; done) | omega
            exact ih (i + 1) ls (by omega) (by rw [e5, e6]; exact lv_sub hl [3, 2, 1, 0] rfl)
  have e7 : (nxt Po S 0).1 = (-1) := by first | rfl | (simp [nxt]; done) | omega
  have e8 : (nxt Po S 0).2 = nI S := by first | rfl | (simp [nxt]; done) | omega
  have e9 : nI 0 = 0 := by first | rfl | (simp [nxt]; done) | omega
  exact L9 N 0 ls (by omega) (by rw [e7, e8, e9]; exact lv_sub hl [3, 2, 1, 0] rfl)
set_option maxHeartbeats 4000000 in
set_option maxRecDepth 100000 in
theorem c_Disks_wordAt (l : Launch) (D : va_G) (cA : ClassId) (hd hw hp N S : Nat) (Wo Po : Fn) (gN4 : 4 ≤ N) (gN : N ≤ 10) (gS1 : 1 ≤ S) (gS : S ≤ 16) (a b : Nat) (ha : a < N) (hb1 : b < S) : Met l y_D_wordAt w_D_wordAt ({ frames := 0, cells := 0, slots := 0, locals := 0 }) (va_Pc [.ref hd, .int (nI a), .int (nI b)] (k_R D [(cA, .int)] (wD cA hd hw hp N S Wo Po))) (k_Ro (some (.int (Wo (a * S + b))))) 0 0 (fun _ => False) := by
  refine Met.ofW (cc := b_D_wordAt) (maxL := 3) (ret := (some .int)) (by decide) rfl ?_
  intro p e s m args below meth c s₁ B hml hv
  obtain ⟨rfl, hP, hK⟩ := hv
  have hx := B.exec
  have hb := B.bytes
  have hr := B.returns
  have hts0 := atoms_spec (ws := w_D_wordAt) B.pre
  have hts : ∀ w ∈ lw_g, w.before _ s = true := fun w h => hts0 w (List.mem_cons_of_mem _ h)
  have hown : s.vm.findClass R_D = some m.cls := findClass_of_methodNamed B.named
  have hlocks := B.notSynchronized
  have hl := lv_entry ([.ref hd, .int (nI a), .int (nI b)]) (n := 3) (Nat.le_of_ble_eq_true rfl)
  rw [lg_entry_eq]
  generalize (lg_sl ([.ref hd, .int (nI a), .int (nI b)]) ++ List.replicate (3 - (lg_sl ([.ref hd, .int (nI a), .int (nI b)])).length) Slot.unset).toArray = ls at hl ⊢
  have hl : lv_has ls 3 [(0, .ref hd), (1, .int (nI a)), (2, .int (nI b))] := hl
  have hix := ix_lt ha hb1
  have hiy := ix_le gN gS
  refine lv_aload_n hx hb d_D_wordAt_0 rfl (lv_at hl 0 rfl) ?_
  refine va_get (D := D) (ci := 0) (v := .ref hw) (C := R_D) (T := T_D) (N := 4) hx hb hts (in_D) hown hK hP 0 rfl rfl 2 (by decide) (hts _ m_f_D_18) (fun _ h9 => h9) rfl d_D_wordAt_1 ?_
  refine lv_iload_n hx hb d_D_wordAt_4 rfl (lv_at hl 1 rfl) ?_
  refine lv_aload_n hx hb d_D_wordAt_5 rfl (lv_at hl 0 rfl) ?_
  refine va_get (D := D) (ci := 0) (v := .int (nI S)) (C := R_D) (T := T_D) (N := 4) hx hb hts (in_D) hown hK hP 0 rfl rfl 1 (by decide) (hts _ m_f_D_15) (fun _ h9 => h9) rfl d_D_wordAt_6 ?_
  refine lv_imul hx hb d_D_wordAt_9 ?_
  refine k_top (nI (a * S)) (pk_mul a S) ?_
  refine lv_iload_n hx hb d_D_wordAt_10 rfl (lv_at hl 2 rfl) ?_
  refine lv_iadd hx hb d_D_wordAt_11 ?_
  refine k_top (nI (a * S + b)) (nI_add (a * S) b) ?_
  refine va_iald (n := N * S) (f := Wo) hx hb hK hP 1 0 rfl rfl (vp_in_nI (by omega) (by omega)) d_D_wordAt_12 ?_
  refine k_top (Wo (a * S + b)) (by rw [show (nI (a * S + b) : Int32).toNatClampNeg = a * S + b from nI_clamp (n := a * S + b) (by omega)]) ?_
  exact W.iret (v := Wo (a * S + b)) hx hb hr (fun t ht hW => ⟨rfl, ht⟩) (fun _ h => by cases h) d_D_wordAt_13
set_option maxHeartbeats 4000000 in
set_option maxRecDepth 100000 in
theorem c_Disks_put (l : Launch) (D : va_G) (cA : ClassId) (hd hw hp N S : Nat) (Wo Po : Fn) (gN4 : 4 ≤ N) (gN : N ≤ 10) (gS1 : 1 ≤ S) (gS : S ≤ 16) (a b : Nat) (w : Int32) (ha : a < N) (hb1 : b < S) : Met l y_D_put w_D_put ({ frames := 0, cells := 0, slots := 0, locals := 0 }) (va_Pc [.ref hd, .int (nI a), .int (nI b), .int w] (k_Wc D [(cA, .int)] (wD cA hd hw hp N S Wo Po))) (va_Qv (fun (_ : Unit) => True) (fun _ t => va_P D vwCl (wD cA hd hw hp N S (upd Wo (a * S + b) w) Po) t.heap) (k_A (wD cA hd hw hp N S Wo Po))) 0 0 (k_A (wD cA hd hw hp N S Wo Po)) := by
  refine Met.ofW (cc := b_D_put) (maxL := 4) (ret := none) (by decide) rfl ?_
  intro p e s m args below meth c s₁ B hml hv
  obtain ⟨rfl, hP, hK, hD0⟩ := hv
  have hx := B.exec
  have hb := B.bytes
  have hr := B.returns
  have hts0 := atoms_spec (ws := w_D_put) B.pre
  have hts : ∀ w ∈ lw_g, w.before _ s = true := fun w h => hts0 w (List.mem_cons_of_mem _ h)
  have hown : s.vm.findClass R_D = some m.cls := findClass_of_methodNamed B.named
  have hlocks := B.notSynchronized
  have hD := k_Dself hD0
  have hS : va_S (k_A (wD cA hd hw hp N S Wo Po)) s.heap s.heap [] := va_S.rf
  have hl := lv_entry ([.ref hd, .int (nI a), .int (nI b), .int w]) (n := 4) (Nat.le_of_ble_eq_true rfl)
  rw [lg_entry_eq]
  generalize (lg_sl ([.ref hd, .int (nI a), .int (nI b), .int w]) ++ List.replicate (4 - (lg_sl ([.ref hd, .int (nI a), .int (nI b), .int w])).length) Slot.unset).toArray = ls at hl ⊢
  have hl : lv_has ls 4 [(0, .ref hd), (1, .int (nI a)), (2, .int (nI b)), (3, .int w)] := hl
  have hix := ix_lt ha hb1
  have hiy := ix_le gN gS
  refine lv_aload_n hx hb d_D_put_0 rfl (lv_at hl 0 rfl) ?_
  refine va_get (D := D) (ci := 0) (v := .ref hw) (C := R_D) (T := T_D) (N := 4) hx hb hts (in_D) hown hK hP 0 rfl rfl 2 (by decide) (hts _ m_f_D_18) (fun _ h9 => h9) rfl d_D_put_1 ?_
  refine lv_iload_n hx hb d_D_put_4 rfl (lv_at hl 1 rfl) ?_
  refine lv_aload_n hx hb d_D_put_5 rfl (lv_at hl 0 rfl) ?_
  refine va_get (D := D) (ci := 0) (v := .int (nI S)) (C := R_D) (T := T_D) (N := 4) hx hb hts (in_D) hown hK hP 0 rfl rfl 1 (by decide) (hts _ m_f_D_15) (fun _ h9 => h9) rfl d_D_put_6 ?_
  refine lv_imul hx hb d_D_put_9 ?_
  refine k_top (nI (a * S)) (pk_mul a S) ?_
  refine lv_iload_n hx hb d_D_put_10 rfl (lv_at hl 2 rfl) ?_
  refine lv_iadd hx hb d_D_put_11 ?_
  refine k_top (nI (a * S + b)) (nI_add (a * S) b) ?_
  refine lv_iload_n hx hb d_D_put_12 rfl (lv_at hl 3 rfl) ?_
  refine va_iast (n := N * S) (f := Wo) hx hb hK hP hD hS 1 0 rfl rfl (vp_in_nI (by omega) (by omega)) d_D_put_13 (fun H locs hP hD hS => ?_)
  rw [show (nI (a * S + b) : Int32).toNatClampNeg = a * S + b from nI_clamp (n := a * S + b) (by omega)] at hP hD
  have hP : va_P D vwCl (wD cA hd hw hp N S (upd Wo (a * S + b) w) Po) H := hP
  have hD : va_D (k_A (wD cA hd hw hp N S Wo Po)) (wD cA hd hw hp N S (upd Wo (a * S + b) w) Po) := hD
  exact W.vret hx hb hr (fun t ht hW => ⟨⟨(), rfl, trivial, by show va_P D vwCl (wD cA hd hw hp N S (upd Wo (a * S + b) w) Po) t.heap; rw [ht]; exact hP⟩, hS.F ht⟩) hS.2.2 d_D_put_14
