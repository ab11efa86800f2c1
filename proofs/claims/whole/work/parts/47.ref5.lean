set_option maxHeartbeats 4000000 in
set_option maxRecDepth 100000 in
theorem c_Model_isCell (l : Launch) (D : va_G) (cA : ClassId) (q : Nat → Nat) (N S : Nat) (z : RS) (gN4 : 4 ≤ N) (gN : N ≤ 10) (gS1 : 1 ≤ S) (gS : S ≤ 16) (x y : Int32) : Met l y_M_isCell w_M_isCell ({ frames := 0, cells := 0, slots := 0, locals := 0 }) (va_Pc [.ref (q 0), .int x, .int y] (k_R D [(cA, .int)] (wM cA q N S z))) (k_Ro (some (.int (bi (decide (((¬ x < 0 ∧ ¬ nI N ≤ x) ∧ (¬ y < 0 ∧ ¬ nI S ≤ y)) ∧ y < rP z (tn x))))))) 0 0 (fun _ => False) := by
  refine Met.ofW (cc := b_M_isCell) (maxL := 3) (ret := (some .boolean)) (by decide) rfl ?_
  intro p e s m args below meth c s₁ B hml hv
  obtain ⟨rfl, hP, hK⟩ := hv
  have hx := B.exec
  have hb := B.bytes
  have hr := B.returns
  have hts0 := atoms_spec (ws := w_M_isCell) B.pre
  have hts : ∀ w ∈ lw_g, w.before _ s = true := fun w h => hts0 w (List.mem_cons_of_mem _ h)
  have hown : s.vm.findClass R_M = some m.cls := findClass_of_methodNamed B.named
  have hlocks := B.notSynchronized
  have hl := lv_entry ([.ref (q 0), .int x, .int y]) (n := 3) (Nat.le_of_ble_eq_true rfl)
  rw [lg_entry_eq]
  generalize (lg_sl ([.ref (q 0), .int x, .int y]) ++ List.replicate (3 - (lg_sl ([.ref (q 0), .int x, .int y])).length) Slot.unset).toArray = ls at hl ⊢
  have hl : lv_has ls 3 [(0, .ref (q 0)), (1, .int x), (2, .int y)] := hl
  refine lv_iload_n hx hb d_M_isCell_0 rfl (lv_at hl 1 rfl) ?_
  refine lv_if_lt (tgt := 38) hx hb d_M_isCell_1 rfl (fun g1 => ?_) (fun g1 => ?_)
  · have h1 := Int32.not_le.mpr g1
    refine lv_iconst (v := 0) hx hb d_M_isCell_38 (by decide) ?_
    refine k_top (bi (decide (((¬ x < 0 ∧ ¬ nI N ≤ x) ∧ (¬ y < 0 ∧ ¬ nI S ≤ y)) ∧ y < rP z (tn x)))) (by rw [decide_eq_false (show ¬ ((((¬ x < 0 ∧ ¬ nI N ≤ x) ∧ (¬ y < 0 ∧ ¬ nI S ≤ y)) ∧ y < rP z (tn x))) by first | assumption | omega | exact fun z => g1 z.1 | exact fun z => g1 z.2 | exact fun z => z.elim (fun z => by omega) (fun z => g1 z.1) | exact fun z => z.elim (fun z => by omega) (fun z => g1 z.2) | exact fun z => h1 z.1 | exact fun z => h1 z.2 | exact fun z => z.elim (fun z => by omega) (fun z => h1 z.1) | exact fun z => z.elim (fun z => by omega) (fun z => h1 z.2) | (simp [bi, g1, h1]; done))]; rfl) ?_
    exact W.zret (v := bi (decide (((¬ x < 0 ∧ ¬ nI N ≤ x) ∧ (¬ y < 0 ∧ ¬ nI S ≤ y)) ∧ y < rP z (tn x)))) (ty := .boolean) hx hb hr (bi_n _) (fun t ht hW => ⟨rfl, ht⟩) (fun _ h => by cases h) d_M_isCell_39
  · have h1 := Int32.not_lt.mp g1
    refine lv_iload_n hx hb d_M_isCell_4 rfl (lv_at hl 1 rfl) ?_
    refine lv_aload_n hx hb d_M_isCell_5 rfl (lv_at hl 0 rfl) ?_
    refine va_get (D := D) (ci := 4) (v := .int (nI N)) (C := R_M) (T := T_M) (N := 16) hx hb hts (in_M) hown hK hP 0 rfl rfl 0 (by decide) (hts _ m_f_M_26) (fun _ h9 => h9) rfl d_M_isCell_6 ?_
    refine lv_icmp_ge (tgt := 38) hx hb d_M_isCell_9 rfl (fun g9 => ?_) (fun g9 => ?_)
    · have h9 := Int32.not_lt.mpr g9
      refine lv_iconst (v := 0) hx hb d_M_isCell_38 (by decide) ?_
      refine k_top (bi (decide (((¬ x < 0 ∧ ¬ nI N ≤ x) ∧ (¬ y < 0 ∧ ¬ nI S ≤ y)) ∧ y < rP z (tn x)))) (by rw [decide_eq_false (show ¬ ((((¬ x < 0 ∧ ¬ nI N ≤ x) ∧ (¬ y < 0 ∧ ¬ nI S ≤ y)) ∧ y < rP z (tn x))) by first | assumption | omega | exact fun z => g1 z.1 | exact fun z => g1 z.2 | exact fun z => z.elim (fun z => by omega) (fun z => g1 z.1) | exact fun z => z.elim (fun z => by omega) (fun z => g1 z.2) | exact fun z => h1 z.1 | exact fun z => h1 z.2 | exact fun z => z.elim (fun z => by omega) (fun z => h1 z.1) | exact fun z => z.elim (fun z => by omega) (fun z => h1 z.2) | exact fun z => g9 z.1 | exact fun z => g9 z.2 | exact fun z => z.elim (fun z => by omega) (fun z => g9 z.1) | exact fun z => z.elim (fun z => by omega) (fun z => g9 z.2) | exact fun z => h9 z.1 | exact fun z => h9 z.2 | exact fun z => z.elim (fun z => by omega) (fun z => h9 z.1) | exact fun z => z.elim (fun z => by omega) (fun z => h9 z.2) | (simp [bi, g1, h1, g9, h9]; done))]; rfl) ?_
      exact W.zret (v := bi (decide (((¬ x < 0 ∧ ¬ nI N ≤ x) ∧ (¬ y < 0 ∧ ¬ nI S ≤ y)) ∧ y < rP z (tn x)))) (ty := .boolean) hx hb hr (bi_n _) (fun t ht hW => ⟨rfl, ht⟩) (fun _ h => by cases h) d_M_isCell_39
    · have h9 := Int32.not_le.mp g9
      refine lv_iload_n hx hb d_M_isCell_12 rfl (lv_at hl 2 rfl) ?_
      refine lv_if_lt (tgt := 38) hx hb d_M_isCell_13 rfl (fun g13 => ?_) (fun g13 => ?_)
      · have h13 := Int32.not_le.mpr g13
        refine lv_iconst (v := 0) hx hb d_M_isCell_38 (by decide) ?_
        refine k_top (bi (decide (((¬ x < 0 ∧ ¬ nI N ≤ x) ∧ (¬ y < 0 ∧ ¬ nI S ≤ y)) ∧ y < rP z (tn x)))) (by rw [decide_eq_false (show ¬ ((((¬ x < 0 ∧ ¬ nI N ≤ x) ∧ (¬ y < 0 ∧ ¬ nI S ≤ y)) ∧ y < rP z (tn x))) by first | assumption | omega | exact fun z => g1 z.1 | exact fun z => g1 z.2 | exact fun z => z.elim (fun z => by omega) (fun z => g1 z.1) | exact fun z => z.elim (fun z => by omega) (fun z => g1 z.2) | exact fun z => h1 z.1 | exact fun z => h1 z.2 | exact fun z => z.elim (fun z => by omega) (fun z => h1 z.1) | exact fun z => z.elim (fun z => by omega) (fun z => h1 z.2) | exact fun z => g9 z.1 | exact fun z => g9 z.2 | exact fun z => z.elim (fun z => by omega) (fun z => g9 z.1) | exact fun z => z.elim (fun z => by omega) (fun z => g9 z.2) | exact fun z => h9 z.1 | exact fun z => h9 z.2 | exact fun z => z.elim (fun z => by omega) (fun z => h9 z.1) | exact fun z => z.elim (fun z => by omega) (fun z => h9 z.2) | exact fun z => g13 z.1 | exact fun z => g13 z.2 | exact fun z => z.elim (fun z => by omega) (fun z => g13 z.1) | exact fun z => z.elim (fun z => by omega) (fun z => g13 z.2) | exact fun z => h13 z.1 | exact fun z => h13 z.2 | exact fun z => z.elim (fun z => by omega) (fun z => h13 z.1) | exact fun z => z.elim (fun z => by omega) (fun z => h13 z.2) | (simp [bi, g1, h1, g9, h9, g13, h13]; done))]; rfl) ?_
        exact W.zret (v := bi (decide (((¬ x < 0 ∧ ¬ nI N ≤ x) ∧ (¬ y < 0 ∧ ¬ nI S ≤ y)) ∧ y < rP z (tn x)))) (ty := .boolean) hx hb hr (bi_n _) (fun t ht hW => ⟨rfl, ht⟩) (fun _ h => by cases h) d_M_isCell_39
      · have h13 := Int32.not_lt.mp g13
        refine lv_iload_n hx hb d_M_isCell_16 rfl (lv_at hl 2 rfl) ?_
        refine lv_aload_n hx hb d_M_isCell_17 rfl (lv_at hl 0 rfl) ?_
        refine va_get (D := D) (ci := 4) (v := .int (nI S)) (C := R_M) (T := T_M) (N := 16) hx hb hts (in_M) hown hK hP 0 rfl rfl 1 (by decide) (hts _ m_f_M_29) (fun _ h9 => h9) rfl d_M_isCell_18 ?_
        refine lv_icmp_ge (tgt := 38) hx hb d_M_isCell_21 rfl (fun g21 => ?_) (fun g21 => ?_)
        · have h21 := Int32.not_lt.mpr g21
          refine lv_iconst (v := 0) hx hb d_M_isCell_38 (by decide) ?_
          refine k_top (bi (decide (((¬ x < 0 ∧ ¬ nI N ≤ x) ∧ (¬ y < 0 ∧ ¬ nI S ≤ y)) ∧ y < rP z (tn x)))) (by rw [decide_eq_false (show ¬ ((((¬ x < 0 ∧ ¬ nI N ≤ x) ∧ (¬ y < 0 ∧ ¬ nI S ≤ y)) ∧ y < rP z (tn x))) by first | assumption | omega | exact fun z => g1 z.1 | exact fun z => g1 z.2 | exact fun z => z.elim (fun z => by omega) (fun z => g1 z.1) | exact fun z => z.elim (fun z => by omega) (fun z => g1 z.2) | exact fun z => h1 z.1 | exact fun z => h1 z.2 | exact fun z => z.elim (fun z => by omega) (fun z => h1 z.1) | exact fun z => z.elim (fun z => by omega) (fun z => h1 z.2) | exact fun z => g9 z.1 | exact fun z => g9 z.2 | exact fun z => z.elim (fun z => by omega) (fun z => g9 z.1) | exact fun z => z.elim (fun z => by omega) (fun z => g9 z.2) | exact fun z => h9 z.1 | exact fun z => h9 z.2 | exact fun z => z.elim (fun z => by omega) (fun z => h9 z.1) | exact fun z => z.elim (fun z => by omega) (fun z => h9 z.2) | exact fun z => g13 z.1 | exact fun z => g13 z.2 | exact fun z => z.elim (fun z => by omega) (fun z => g13 z.1) | exact fun z => z.elim (fun z => by omega) (fun z => g13 z.2) | exact fun z => h13 z.1 | exact fun z => h13 z.2 | exact fun z => z.elim (fun z => by omega) (fun z => h13 z.1) | exact fun z => z.elim (fun z => by omega) (fun z => h13 z.2) | exact fun z => g21 z.1 | exact fun z => g21 z.2 | exact fun z => z.elim (fun z => by omega) (fun z => g21 z.1) | exact fun z => z.elim (fun z => by omega) (fun z => g21 z.2) | exact fun z => h21 z.1 | exact fun z => h21 z.2 | exact fun z => z.elim (fun z => by omega) (fun z => h21 z.1) | exact fun z => z.elim (fun z => by omega) (fun z => h21 z.2) | (simp [bi, g1, h1, g9, h9, g13, h13, g21, h21]; done))]; rfl) ?_
          exact W.zret (v := bi (decide (((¬ x < 0 ∧ ¬ nI N ≤ x) ∧ (¬ y < 0 ∧ ¬ nI S ≤ y)) ∧ y < rP z (tn x)))) (ty := .boolean) hx hb hr (bi_n _) (fun t ht hW => ⟨rfl, ht⟩) (fun _ h => by cases h) d_M_isCell_39
        · have h21 := Int32.not_le.mp g21
          have hin : (¬ x < 0 ∧ ¬ nI N ≤ x) ∧ (¬ y < 0 ∧ ¬ nI S ≤ y) := ⟨⟨g1, g9⟩, ⟨g13, g21⟩⟩
          obtain ⟨hx1, hx2⟩ := tn_of (by omega) hin.1
          have hl : lv_has ls 3 [(0, .ref (q 0)), (1, .int (nI (tn x))), (2, .int y)] := by rw [← hx2]; exact hl
          refine lv_aload_n hx hb d_M_isCell_24 rfl (lv_at hl 0 rfl) ?_
          refine va_get (D := D) (ci := 4) (v := .ref (q 2)) (C := R_M) (T := T_M) (N := 16) hx hb hts (in_M) hown hK hP 0 rfl rfl 10 (by decide) (hts _ m_f_M_13) (fun _ h9 => h9) rfl d_M_isCell_25 ?_
          refine lv_iload_n hx hb d_M_isCell_28 rfl (lv_at hl 1 rfl) ?_
          refine va_iald (n := 10) (f := rP z) hx hb hK hP 2 0 rfl rfl (vp_in_nI (by omega) (by omega)) d_M_isCell_29 ?_
          refine k_top ((rP z) (tn x)) (by rw [show (nI (tn x) : Int32).toNatClampNeg = tn x from nI_clamp (n := tn x) (by omega)]) ?_
          refine lv_iload_n hx hb d_M_isCell_30 rfl (lv_at hl 2 rfl) ?_
          refine lv_icmp_le (tgt := 38) hx hb d_M_isCell_31 rfl (fun g31 => ?_) (fun g31 => ?_)
          · have h31 := Int32.not_lt.mpr g31
            refine lv_iconst (v := 0) hx hb d_M_isCell_38 (by decide) ?_
            refine k_top (bi (decide (((¬ x < 0 ∧ ¬ nI N ≤ x) ∧ (¬ y < 0 ∧ ¬ nI S ≤ y)) ∧ y < rP z (tn x)))) (by rw [decide_eq_false (show ¬ ((((¬ x < 0 ∧ ¬ nI N ≤ x) ∧ (¬ y < 0 ∧ ¬ nI S ≤ y)) ∧ y < rP z (tn x))) by first | assumption | omega | exact fun z => g1 z.1 | exact fun z => g1 z.2 | exact fun z => z.elim (fun z => by omega) (fun z => g1 z.1) | exact fun z => z.elim (fun z => by omega) (fun z => g1 z.2) | exact fun z => h1 z.1 | exact fun z => h1 z.2 | exact fun z => z.elim (fun z => by omega) (fun z => h1 z.1) | exact fun z => z.elim (fun z => by omega) (fun z => h1 z.2) | exact fun z => g9 z.1 | exact fun z => g9 z.2 | exact fun z => z.elim (fun z => by omega) (fun z => g9 z.1) | exact fun z => z.elim (fun z => by omega) (fun z => g9 z.2) | exact fun z => h9 z.1 | exact fun z => h9 z.2 | exact fun z => z.elim (fun z => by omega) (fun z => h9 z.1) | exact fun z => z.elim (fun z => by omega) (fun z => h9 z.2) | exact fun z => g13 z.1 | exact fun z => g13 z.2 | exact fun z => z.elim (fun z => by omega) (fun z => g13 z.1) | exact fun z => z.elim (fun z => by omega) (fun z => g13 z.2) | exact fun z => h13 z.1 | exact fun z => h13 z.2 | exact fun z => z.elim (fun z => by omega) (fun z => h13 z.1) | exact fun z => z.elim (fun z => by omega) (fun z => h13 z.2) | exact fun z => g21 z.1 | exact fun z => g21 z.2 | exact fun z => z.elim (fun z => by omega) (fun z => g21 z.1) | exact fun z => z.elim (fun z => by omega) (fun z => g21 z.2) | exact fun z => h21 z.1 | exact fun z => h21 z.2 | exact fun z => z.elim (fun z => by omega) (fun z => h21 z.1) | exact fun z => z.elim (fun z => by omega) (fun z => h21 z.2) | exact fun z => hin z.1 | exact fun z => hin z.2 | exact fun z => z.elim (fun z => by omega) (fun z => hin z.1) | exact fun z => z.elim (fun z => by omega) (fun z => hin z.2) | exact fun z => g31 z.1 | exact fun z => g31 z.2 | exact fun z => z.elim (fun z => by omega) (fun z => g31 z.1) | exact fun z => z.elim (fun z => by omega) (fun z => g31 z.2) | exact fun z => h31 z.1 | exact fun z => h31 z.2 | exact fun z => z.elim (fun z => by omega) (fun z => h31 z.1) | exact fun z => z.elim (fun z => by omega) (fun z => h31 z.2) | (simp [bi, g1, h1, g9, h9, g13, h13, g21, h21, hin, g31, h31]; done))]; rfl) ?_
            exact W.zret (v := bi (decide (((¬ x < 0 ∧ ¬ nI N ≤ x) ∧ (¬ y < 0 ∧ ¬ nI S ≤ y)) ∧ y < rP z (tn x)))) (ty := .boolean) hx hb hr (bi_n _) (fun t ht hW => ⟨rfl, ht⟩) (fun _ h => by cases h) d_M_isCell_39
          · have h31 := Int32.not_le.mp g31
            refine lv_iconst (v := 1) hx hb d_M_isCell_34 (by decide) ?_
            refine lv_goto hx hb d_M_isCell_35 rfl ?_
            refine k_top (bi (decide (((¬ x < 0 ∧ ¬ nI N ≤ x) ∧ (¬ y < 0 ∧ ¬ nI S ≤ y)) ∧ y < rP z (tn x)))) (by rw [decide_eq_true (show (((¬ x < 0 ∧ ¬ nI N ≤ x) ∧ (¬ y < 0 ∧ ¬ nI S ≤ y)) ∧ y < rP z (tn x)) by first | assumption | omega | exact ⟨by assumption, by assumption⟩ | exact ⟨⟨by assumption, by assumption⟩, by assumption⟩ | exact Or.inl (by first | assumption | omega) | exact Or.inr ⟨by assumption, by assumption⟩ | (simp [bi, g1, h1, g9, h9, g13, h13, g21, h21, hin, g31, h31]; done))]; rfl) ?_
            exact W.zret (v := bi (decide (((¬ x < 0 ∧ ¬ nI N ≤ x) ∧ (¬ y < 0 ∧ ¬ nI S ≤ y)) ∧ y < rP z (tn x)))) (ty := .boolean) hx hb hr (bi_n _) (fun t ht hW => ⟨rfl, ht⟩) (fun _ h => by cases h) d_M_isCell_39
set_option maxHeartbeats 4000000 in
set_option maxRecDepth 100000 in
theorem c_Model_corrupt (l : Launch) (D : va_G) (cA : ClassId) (q : Nat → Nat) (N S : Nat) (z : RS) (gN4 : 4 ≤ N) (gN : N ≤ 10) (gS1 : 1 ≤ S) (gS : S ≤ 16) (x y w : Int32) : Met l y_M_corrupt w_M_corrupt ({ frames := 1, cells := 0, slots := 0, locals := 22 }) (va_Pc [.ref (q 0), .int x, .int y, .int w] (k_Wc D [(cA, .int)] (wM cA q N S z))) (va_Qi (fun (r : Int32) (_ : Unit) => r = bi ((rCor N S x y w z).1)) (fun _ t => va_P D vwCl (wM cA q N S ((rCor N S x y w z).2)) t.heap) (k_A (wM cA q N S z))) 0 0 (k_A (wM cA q N S z)) := by
  refine Met.ofW (cc := b_M_corrupt) (maxL := 4) (ret := (some .boolean)) (by decide) rfl ?_
  intro p e s m args below meth c s₁ B hml hv
  obtain ⟨rfl, hP, hK, hD0⟩ := hv
  have hx := B.exec
  have hb := B.bytes
  have hr := B.returns
  have hts0 := atoms_spec (ws := w_M_corrupt) B.pre
  have hts : ∀ w ∈ lw_g, w.before _ s = true := fun w h => hts0 w (List.mem_cons_of_mem _ h)
  have hown : s.vm.findClass R_M = some m.cls := findClass_of_methodNamed B.named
  have hlocks := B.notSynchronized
  have hD := k_Dself hD0
  have hDD := hD
  have hS : va_S (k_A (wM cA q N S z)) s.heap s.heap [] := va_S.rf
  have hl := lv_entry ([.ref (q 0), .int x, .int y, .int w]) (n := 4) (Nat.le_of_ble_eq_true rfl)
  rw [lg_entry_eq]
  generalize (lg_sl ([.ref (q 0), .int x, .int y, .int w]) ++ List.replicate (4 - (lg_sl ([.ref (q 0), .int x, .int y, .int w])).length) Slot.unset).toArray = ls at hl ⊢
  have hl : lv_has ls 4 [(0, .ref (q 0)), (1, .int x), (2, .int y), (3, .int w)] := hl
  refine lv_aload_n hx hb d_M_corrupt_0 rfl (lv_at hl 0 rfl) ?_
  refine lv_iload_n hx hb d_M_corrupt_1 rfl (lv_at hl 1 rfl) ?_
  refine lv_iload_n hx hb d_M_corrupt_2 rfl (lv_at hl 2 rfl) ?_
  refine k_roi (va_runV (C := R_M) (As := [.int x, .int y]) (rest := []) ⟨hx, hb, hml, hown, hts⟩ (c_Model_isCell l D cA q N S z (by omega) (by omega) (by omega) (by omega) x y) (k_cwV 2 hts m_code_M_isCell m_ini_M m_l_M_136 m_inst_M_isCell m_sel_M_isCell h_M_isCell rfl rfl ⟨Nat.le_of_ble_eq_true rfl, Nat.le_of_ble_eq_true rfl⟩) (k_pR hP hK [0, 1, 2, 3, 4] rfl 0 4 rfl rfl) rfl rfl hl.1 rfl (lv_room (Nat.le_of_ble_eq_true rfl)) d_M_corrupt_3 ⟨Nat.zero_le _, Nat.zero_le _⟩) ?_
  refine lv_if_ne (tgt := 11) hx hb d_M_corrupt_6 rfl (fun g6 => ?_) (fun g6 => ?_)
  · have h6 := of_decide_eq_true (bi_nz.mp g6)
    obtain ⟨⟨hx9, hy9⟩, hp9⟩ := h6
    obtain ⟨hx1, hx2⟩ := tn_of (by omega) hx9
    obtain ⟨hy1, hy2⟩ := tn_of (by omega) hy9
    have hin : (¬ x < 0 ∧ ¬ nI N ≤ x) ∧ (¬ y < 0 ∧ ¬ nI S ≤ y) := ⟨hx9, hy9⟩
    have hl : lv_has ls 4 [(0, .ref (q 0)), (1, .int (nI (tn x))), (2, .int (nI (tn y))), (3, .int w)] := by rw [← hx2, ← hy2]; exact hl
    refine lv_aload_n hx hb d_M_corrupt_11 rfl (lv_at hl 0 rfl) ?_
    refine va_get (D := D) (ci := 4) (v := .ref (q 1)) (C := R_M) (T := T_M) (N := 16) hx hb hts (in_M) hown hK hP 0 rfl rfl 9 (by decide) (hts _ m_f_M_7) (fun _ h9 => h9) rfl d_M_corrupt_12 ?_
    refine lv_bipush (v := 16) hx hb d_M_corrupt_15 (by decide) ?_
    refine lv_iload_n hx hb d_M_corrupt_17 rfl (lv_at hl 1 rfl) ?_
    refine lv_imul hx hb d_M_corrupt_18 ?_
    refine k_top (nI (16 * (tn x))) (pk_mul 16 (tn x)) ?_
    refine lv_iload_n hx hb d_M_corrupt_19 rfl (lv_at hl 2 rfl) ?_
    refine lv_iadd hx hb d_M_corrupt_20 ?_
    refine k_top (nI (16 * (tn x) + (tn y))) (nI_add (16 * (tn x)) (tn y)) ?_
    refine lv_dup2_11 hx hb d_M_corrupt_21 rfl rfl ?_
    refine va_iald (n := 160) (f := rW z) hx hb hK hP 1 0 rfl rfl (vp_in_nI (by omega) (by omega)) d_M_corrupt_22 ?_
    refine k_top ((rW z) (16 * (tn x) + (tn y))) (by rw [show (nI (16 * (tn x) + (tn y)) : Int32).toNatClampNeg = 16 * (tn x) + (tn y) from nI_clamp (n := 16 * (tn x) + (tn y)) (by omega)]) ?_
    refine lv_iload_n hx hb d_M_corrupt_23 rfl (lv_at hl 3 rfl) ?_
    refine lv_ixor hx hb d_M_corrupt_24 ?_
    refine va_iast (n := 160) (f := rW z) hx hb hK hP hD hS 1 0 rfl rfl (vp_in_nI (by omega) (by omega)) d_M_corrupt_25 (fun H locs hP hD hS => ?_)
    rw [show (nI (16 * (tn x) + (tn y)) : Int32).toNatClampNeg = 16 * (tn x) + (tn y) from nI_clamp (n := 16 * (tn x) + (tn y)) (by omega)] at hP hD
    have hP : va_P D vwCl (wM cA q N S (tW z (upd (rW z) (16 * (tn x) + (tn y)) (((rW z) (16 * (tn x) + (tn y))) ^^^ w)))) H := wM_tW hP
    have hD : va_D (k_A (wM cA q N S z)) (wM cA q N S (tW z (upd (rW z) (16 * (tn x) + (tn y)) (((rW z) (16 * (tn x) + (tn y))) ^^^ w)))) := wM_D hDD
    refine lv_iconst (v := 1) hx hb d_M_corrupt_26 (by decide) ?_
    have e1 : (rCor N S x y w z).2 = tW z (upd (rW z) (16 * (tn x) + (tn y)) (((rW z) (16 * (tn x) + (tn y))) ^^^ w)) := by first | ((try unfold rCor); (repeat (first | rw [if_pos g6] | rw [if_neg g6] | rw [if_pos h6] | rw [if_neg h6] | rw [if_pos hin] | rw [if_neg hin] | rw [if_pos hp9] | rw [if_neg hp9] | rw [rRV_n2] | rw [rRA_n] | rw [if_pos (rfl : (0 : Int32) = 0)] | rw [if_neg (show ¬ (-2 : Int32) = 0 by decide)] | rw [if_neg (show ¬ (-3 : Int32) = 0 by decide)] | rw [if_neg (show ¬ true = false by decide)] | rw [if_pos (show false = false from rfl)] | dsimp only)); first | done | rfl) | rfl
    exact W.zret (v := 1) (ty := .boolean) hx hb hr (rfl) (fun t ht hW => ⟨⟨_, (), rfl, by first | ((try unfold rCor); (repeat (first | rw [if_pos g6] | rw [if_neg g6] | rw [if_pos h6] | rw [if_neg h6] | rw [if_pos hin] | rw [if_neg hin] | rw [if_pos hp9] | rw [if_neg hp9] | rw [rRV_n2] | rw [rRA_n] | rw [if_pos (rfl : (0 : Int32) = 0)] | rw [if_neg (show ¬ (-2 : Int32) = 0 by decide)] | rw [if_neg (show ¬ (-3 : Int32) = 0 by decide)] | rw [if_neg (show ¬ true = false by decide)] | rw [if_pos (show false = false from rfl)] | dsimp only)); first | done | rfl) | rfl, by show va_P D vwCl (wM cA q N S ((rCor N S x y w z).2)) t.heap; rw [ht, e1]; exact hP⟩, hS.F ht⟩) hS.2.2 d_M_corrupt_27
  · have h6 := of_decide_eq_false (bi_z.mp g6)
    refine lv_iconst (v := 0) hx hb d_M_corrupt_9 (by decide) ?_
    have e2 : (rCor N S x y w z).2 = z := by unfold rCor; split; (rename_i w1; split; (rename_i w2; exact absurd ⟨w1, w2⟩ h6); rfl); rfl
    exact W.zret (v := 0) (ty := .boolean) hx hb hr (rfl) (fun t ht hW => ⟨⟨_, (), rfl, by unfold rCor; split; (rename_i w1; split; (rename_i w2; exact absurd ⟨w1, w2⟩ h6); rfl); rfl, by show va_P D vwCl (wM cA q N S ((rCor N S x y w z).2)) t.heap; rw [ht, e2]; exact hP⟩, hS.F ht⟩) hS.2.2 d_M_corrupt_10
set_option maxHeartbeats 4000000 in
set_option maxRecDepth 100000 in
theorem c_Model_arm (l : Launch) (D : va_G) (cA : ClassId) (q : Nat → Nat) (N S : Nat) (z : RS) (gN4 : 4 ≤ N) (gN : N ≤ 10) (gS1 : 1 ≤ S) (gS : S ≤ 16) (x : Int32) : Met l y_M_arm w_M_arm ({ frames := 0, cells := 0, slots := 0, locals := 0 }) (va_Pc [.ref (q 0), .int x] (k_Wc D [(cA, .int)] (wM cA q N S z))) (va_Qi (fun (r : Int32) (_ : Unit) => r = bi ((rArm x z).1)) (fun _ t => va_P D vwCl (wM cA q N S ((rArm x z).2)) t.heap) (k_A (wM cA q N S z))) 0 0 (k_A (wM cA q N S z)) := by
  refine Met.ofW (cc := b_M_arm) (maxL := 2) (ret := (some .boolean)) (by decide) rfl ?_
  intro p e s m args below meth c s₁ B hml hv
  obtain ⟨rfl, hP, hK, hD0⟩ := hv
  have hx := B.exec
  have hb := B.bytes
  have hr := B.returns
  have hts0 := atoms_spec (ws := w_M_arm) B.pre
  have hts : ∀ w ∈ lw_g, w.before _ s = true := fun w h => hts0 w (List.mem_cons_of_mem _ h)
  have hown : s.vm.findClass R_M = some m.cls := findClass_of_methodNamed B.named
  have hlocks := B.notSynchronized
  have hD := k_Dself hD0
  have hDD := hD
  have hS : va_S (k_A (wM cA q N S z)) s.heap s.heap [] := va_S.rf
  have hl := lv_entry ([.ref (q 0), .int x]) (n := 2) (Nat.le_of_ble_eq_true rfl)
  rw [lg_entry_eq]
  generalize (lg_sl ([.ref (q 0), .int x]) ++ List.replicate (2 - (lg_sl ([.ref (q 0), .int x])).length) Slot.unset).toArray = ls at hl ⊢
  have hl : lv_has ls 2 [(0, .ref (q 0)), (1, .int x)] := hl
  refine lv_iload_n hx hb d_M_arm_0 rfl (lv_at hl 1 rfl) ?_
  refine lv_if_lt (tgt := 11) hx hb d_M_arm_1 rfl (fun g1 => ?_) (fun g1 => ?_)
  · have h1 := Int32.not_le.mpr g1
    refine lv_iconst (v := 0) hx hb d_M_arm_11 (by decide) ?_
    have e1 : (rArm x z).2 = z := by first | ((try unfold rArm); (repeat (first | rw [if_pos g1] | rw [if_neg g1] | rw [if_pos h1] | rw [if_neg h1] | rw [rRV_n2] | rw [rRA_n] | rw [if_pos (rfl : (0 : Int32) = 0)] | rw [if_neg (show ¬ (-2 : Int32) = 0 by decide)] | rw [if_neg (show ¬ (-3 : Int32) = 0 by decide)] | rw [if_neg (show ¬ true = false by decide)] | rw [if_pos (show false = false from rfl)] | dsimp only)); first | done | rfl) | rfl
    exact W.zret (v := 0) (ty := .boolean) hx hb hr (rfl) (fun t ht hW => ⟨⟨_, (), rfl, by first | ((try unfold rArm); (repeat (first | rw [if_pos g1] | rw [if_neg g1] | rw [if_pos h1] | rw [if_neg h1] | rw [rRV_n2] | rw [rRA_n] | rw [if_pos (rfl : (0 : Int32) = 0)] | rw [if_neg (show ¬ (-2 : Int32) = 0 by decide)] | rw [if_neg (show ¬ (-3 : Int32) = 0 by decide)] | rw [if_neg (show ¬ true = false by decide)] | rw [if_pos (show false = false from rfl)] | dsimp only)); first | done | rfl) | rfl, by show va_P D vwCl (wM cA q N S ((rArm x z).2)) t.heap; rw [ht, e1]; exact hP⟩, hS.F ht⟩) hS.2.2 d_M_arm_12
  · have h1 := Int32.not_lt.mp g1
    refine lv_iload_n hx hb d_M_arm_4 rfl (lv_at hl 1 rfl) ?_
    refine lv_sipush (v := 1000) hx hb d_M_arm_5 (by decide) ?_
    refine lv_icmp_le (tgt := 13) hx hb d_M_arm_8 rfl (fun g8 => ?_) (fun g8 => ?_)
    · have h8 := Int32.not_lt.mpr g8
      refine lv_aload_n hx hb d_M_arm_13 rfl (lv_at hl 0 rfl) ?_
      refine lv_iconst (v := 1) hx hb d_M_arm_14 (by decide) ?_
      refine va_put (D := D) (ci := 4) (v := .int 1) (ty := .boolean) (C := R_M) (T := T_M) (N := 16) hx hb hts (in_M) ty_M tyok_M nm_M hown hK hP hD hS 0 rfl rfl 4 (by decide) (hts _ m_f_M_66) (fun _ h9 => h9) rfl (by decide +kernel) rfl rfl (Nat.le_of_ble_eq_true rfl) d_M_arm_15 (fun H locs hP hD hS => ?_)
      have hP : va_P D vwCl (wM cA q N S (tAr z 1)) H := hP
      have hD : va_D (k_A (wM cA q N S z)) (wM cA q N S (tAr z 1)) := wM_D hDD
      refine lv_aload_n hx hb d_M_arm_18 rfl (lv_at hl 0 rfl) ?_
      refine lv_iload_n hx hb d_M_arm_19 rfl (lv_at hl 1 rfl) ?_
      refine va_put (D := D) (ci := 4) (v := .int x) (ty := .int) (C := R_M) (T := T_M) (N := 16) hx hb hts (in_M) ty_M tyok_M nm_M hown hK hP hD hS 0 rfl rfl 5 (by decide) (hts _ m_f_M_70) (fun _ h9 => h9) rfl (by decide +kernel) rfl rfl (Nat.le_of_ble_eq_true rfl) d_M_arm_20 (fun H locs hP hD hS => ?_)
      have hP : va_P D vwCl (wM cA q N S (tUn (tAr z 1) x)) H := hP
      have hD : va_D (k_A (wM cA q N S z)) (wM cA q N S (tUn (tAr z 1) x)) := wM_D hDD
      refine lv_iconst (v := 1) hx hb d_M_arm_23 (by decide) ?_
      have e2 : (rArm x z).2 = tUn (tAr z 1) x := by first | ((try unfold rArm); (repeat (first | rw [if_pos g1] | rw [if_neg g1] | rw [if_pos h1] | rw [if_neg h1] | rw [if_pos g8] | rw [if_neg g8] | rw [if_pos h8] | rw [if_neg h8] | rw [rRV_n2] | rw [rRA_n] | rw [if_pos (rfl : (0 : Int32) = 0)] | rw [if_neg (show ¬ (-2 : Int32) = 0 by decide)] | rw [if_neg (show ¬ (-3 : Int32) = 0 by decide)] | rw [if_neg (show ¬ true = false by decide)] | rw [if_pos (show false = false from rfl)] | dsimp only)); first | done | rfl) | rfl
      exact W.zret (v := 1) (ty := .boolean) hx hb hr (rfl) (fun t ht hW => ⟨⟨_, (), rfl, by first | ((try unfold rArm); (repeat (first | rw [if_pos g1] | rw [if_neg g1] | rw [if_pos h1] | rw [if_neg h1] | rw [if_pos g8] | rw [if_neg g8] | rw [if_pos h8] | rw [if_neg h8] | rw [rRV_n2] | rw [rRA_n] | rw [if_pos (rfl : (0 : Int32) = 0)] | rw [if_neg (show ¬ (-2 : Int32) = 0 by decide)] | rw [if_neg (show ¬ (-3 : Int32) = 0 by decide)] | rw [if_neg (show ¬ true = false by decide)] | rw [if_pos (show false = false from rfl)] | dsimp only)); first | done | rfl) | rfl, by show va_P D vwCl (wM cA q N S ((rArm x z).2)) t.heap; rw [ht, e2]; exact hP⟩, hS.F ht⟩) hS.2.2 d_M_arm_24
    · have h8 := Int32.not_le.mp g8
      refine lv_iconst (v := 0) hx hb d_M_arm_11 (by decide) ?_
      have e3 : (rArm x z).2 = z := by first | ((try unfold rArm); (repeat (first | rw [if_pos g1] | rw [if_neg g1] | rw [if_pos h1] | rw [if_neg h1] | rw [if_pos g8] | rw [if_neg g8] | rw [if_pos h8] | rw [if_neg h8] | rw [rRV_n2] | rw [rRA_n] | rw [if_pos (rfl : (0 : Int32) = 0)] | rw [if_neg (show ¬ (-2 : Int32) = 0 by decide)] | rw [if_neg (show ¬ (-3 : Int32) = 0 by decide)] | rw [if_neg (show ¬ true = false by decide)] | rw [if_pos (show false = false from rfl)] | dsimp only)); first | done | rfl) | rfl
      exact W.zret (v := 0) (ty := .boolean) hx hb hr (rfl) (fun t ht hW => ⟨⟨_, (), rfl, by first | ((try unfold rArm); (repeat (first | rw [if_pos g1] | rw [if_neg g1] | rw [if_pos h1] | rw [if_neg h1] | rw [if_pos g8] | rw [if_neg g8] | rw [if_pos h8] | rw [if_neg h8] | rw [rRV_n2] | rw [rRA_n] | rw [if_pos (rfl : (0 : Int32) = 0)] | rw [if_neg (show ¬ (-2 : Int32) = 0 by decide)] | rw [if_neg (show ¬ (-3 : Int32) = 0 by decide)] | rw [if_neg (show ¬ true = false by decide)] | rw [if_pos (show false = false from rfl)] | dsimp only)); first | done | rfl) | rfl, by show va_P D vwCl (wM cA q N S ((rArm x z).2)) t.heap; rw [ht, e3]; exact hP⟩, hS.F ht⟩) hS.2.2 d_M_arm_12
set_option maxHeartbeats 4000000 in
set_option maxRecDepth 100000 in
theorem c_Model_crash (l : Launch) (D : va_G) (cA : ClassId) (q : Nat → Nat) (N S : Nat) (z : RS) (gN4 : 4 ≤ N) (gN : N ≤ 10) (gS1 : 1 ≤ S) (gS : S ≤ 16) : Met l y_M_crash w_M_crash ({ frames := 0, cells := 0, slots := 0, locals := 0 }) (va_Pc [.ref (q 0)] (k_Wc D [(cA, .int)] (wM cA q N S z))) (va_Qi (fun (r : Int32) (_ : Unit) => r = bi ((rCra z).1)) (fun _ t => va_P D vwCl (wM cA q N S ((rCra z).2)) t.heap) (k_A (wM cA q N S z))) 0 0 (k_A (wM cA q N S z)) := by
  refine Met.ofW (cc := b_M_crash) (maxL := 1) (ret := (some .boolean)) (by decide) rfl ?_
  intro p e s m args below meth c s₁ B hml hv
  obtain ⟨rfl, hP, hK, hD0⟩ := hv
  have hx := B.exec
  have hb := B.bytes
  have hr := B.returns
  have hts0 := atoms_spec (ws := w_M_crash) B.pre
  have hts : ∀ w ∈ lw_g, w.before _ s = true := fun w h => hts0 w (List.mem_cons_of_mem _ h)
  have hown : s.vm.findClass R_M = some m.cls := findClass_of_methodNamed B.named
  have hlocks := B.notSynchronized
  have hD := k_Dself hD0
  have hDD := hD
  have hS : va_S (k_A (wM cA q N S z)) s.heap s.heap [] := va_S.rf
  have hl := lv_entry ([.ref (q 0)]) (n := 1) (Nat.le_of_ble_eq_true rfl)
  rw [lg_entry_eq]
  generalize (lg_sl ([.ref (q 0)]) ++ List.replicate (1 - (lg_sl ([.ref (q 0)])).length) Slot.unset).toArray = ls at hl ⊢
  have hl : lv_has ls 1 [(0, .ref (q 0))] := hl
  refine lv_aload_n hx hb d_M_crash_0 rfl (lv_at hl 0 rfl) ?_
  refine va_get (D := D) (ci := 4) (v := .int (rDn z)) (C := R_M) (T := T_M) (N := 16) hx hb hts (in_M) hown hK hP 0 rfl rfl 3 (by decide) (hts _ m_f_M_73) (fun _ h9 => h9) rfl d_M_crash_1 ?_
  refine lv_if_eq (tgt := 9) hx hb d_M_crash_4 rfl (fun g4 => ?_) (fun g4 => ?_)
  · refine lv_aload_n hx hb d_M_crash_9 rfl (lv_at hl 0 rfl) ?_
    refine lv_iconst (v := 1) hx hb d_M_crash_10 (by decide) ?_
    refine va_put (D := D) (ci := 4) (v := .int 1) (ty := .boolean) (C := R_M) (T := T_M) (N := 16) hx hb hts (in_M) ty_M tyok_M nm_M hown hK hP hD hS 0 rfl rfl 3 (by decide) (hts _ m_f_M_73) (fun _ h9 => h9) rfl (by decide +kernel) rfl rfl (Nat.le_of_ble_eq_true rfl) d_M_crash_11 (fun H locs hP hD hS => ?_)
    have hP : va_P D vwCl (wM cA q N S (tDn z 1)) H := hP
    have hD : va_D (k_A (wM cA q N S z)) (wM cA q N S (tDn z 1)) := wM_D hDD
    refine lv_aload_n hx hb d_M_crash_14 rfl (lv_at hl 0 rfl) ?_
    refine lv_iconst (v := 0) hx hb d_M_crash_15 (by decide) ?_
    refine va_put (D := D) (ci := 4) (v := .int 0) (ty := .boolean) (C := R_M) (T := T_M) (N := 16) hx hb hts (in_M) ty_M tyok_M nm_M hown hK hP hD hS 0 rfl rfl 4 (by decide) (hts _ m_f_M_66) (fun _ h9 => h9) rfl (by decide +kernel) rfl rfl (Nat.le_of_ble_eq_true rfl) d_M_crash_16 (fun H locs hP hD hS => ?_)
    have hP : va_P D vwCl (wM cA q N S (tAr (tDn z 1) 0)) H := hP
    have hD : va_D (k_A (wM cA q N S z)) (wM cA q N S (tAr (tDn z 1) 0)) := wM_D hDD
    refine lv_iconst (v := 1) hx hb d_M_crash_19 (by decide) ?_
    have e1 : (rCra z).2 = tAr (tDn z 1) 0 := by first | ((try unfold rCra); (repeat (first | rw [if_pos g4] | rw [if_neg g4] | rw [rRV_n2] | rw [rRA_n] | rw [if_pos (rfl : (0 : Int32) = 0)] | rw [if_neg (show ¬ (-2 : Int32) = 0 by decide)] | rw [if_neg (show ¬ (-3 : Int32) = 0 by decide)] | rw [if_neg (show ¬ true = false by decide)] | rw [if_pos (show false = false from rfl)] | dsimp only)); first | done | rfl) | rfl
    exact W.zret (v := 1) (ty := .boolean) hx hb hr (rfl) (fun t ht hW => ⟨⟨_, (), rfl, by first | ((try unfold rCra); (repeat (first | rw [if_pos g4] | rw [if_neg g4] | rw [rRV_n2] | rw [rRA_n] | rw [if_pos (rfl : (0 : Int32) = 0)] | rw [if_neg (show ¬ (-2 : Int32) = 0 by decide)] | rw [if_neg (show ¬ (-3 : Int32) = 0 by decide)] | rw [if_neg (show ¬ true = false by decide)] | rw [if_pos (show false = false from rfl)] | dsimp only)); first | done | rfl) | rfl, by show va_P D vwCl (wM cA q N S ((rCra z).2)) t.heap; rw [ht, e1]; exact hP⟩, hS.F ht⟩) hS.2.2 d_M_crash_20
  · refine lv_iconst (v := 0) hx hb d_M_crash_7 (by decide) ?_
    have e2 : (rCra z).2 = z := by first | ((try unfold rCra); (repeat (first | rw [if_pos g4] | rw [if_neg g4] | rw [rRV_n2] | rw [rRA_n] | rw [if_pos (rfl : (0 : Int32) = 0)] | rw [if_neg (show ¬ (-2 : Int32) = 0 by decide)] | rw [if_neg (show ¬ (-3 : Int32) = 0 by decide)] | rw [if_neg (show ¬ true = false by decide)] | rw [if_pos (show false = false from rfl)] | dsimp only)); first | done | rfl) | rfl
    exact W.zret (v := 0) (ty := .boolean) hx hb hr (rfl) (fun t ht hW => ⟨⟨_, (), rfl, by first | ((try unfold rCra); (repeat (first | rw [if_pos g4] | rw [if_neg g4] | rw [rRV_n2] | rw [rRA_n] | rw [if_pos (rfl : (0 : Int32) = 0)] | rw [if_neg (show ¬ (-2 : Int32) = 0 by decide)] | rw [if_neg (show ¬ (-3 : Int32) = 0 by decide)] | rw [if_neg (show ¬ true = false by decide)] | rw [if_pos (show false = false from rfl)] | dsimp only)); first | done | rfl) | rfl, by show va_P D vwCl (wM cA q N S ((rCra z).2)) t.heap; rw [ht, e2]; exact hP⟩, hS.F ht⟩) hS.2.2 d_M_crash_8
set_option maxHeartbeats 4000000 in
set_option maxRecDepth 100000 in
theorem c_Model_restart (l : Launch) (D : va_G) (cA : ClassId) (q : Nat → Nat) (N S : Nat) (z : RS) (gN4 : 4 ≤ N) (gN : N ≤ 10) (gS1 : 1 ≤ S) (gS : S ≤ 16) (hLg : rLs z = -1 ∨ ∃ b f e, b < S ∧ f ≤ e ∧ e ≤ N - 2 ∧ rLs z = nI b ∧ rLf z = nI f ∧ rLt z = nI e) : Met l y_M_restart w_M_restart ({ frames := 4, cells := 0, slots := 0, locals := 89 }) (va_Pc [.ref (q 0)] (k_Wc D [(cA, .int)] (wM cA q N S z))) (va_Qi (fun (r : Int32) (_ : Unit) => r = (rRs N S z).1) (fun _ t => va_P D vwCl (wM cA q N S ((rRs N S z).2)) t.heap) (k_A (wM cA q N S z))) 0 0 (k_A (wM cA q N S z)) := by
  refine Met.ofW (cc := b_M_restart) (maxL := 1) (ret := (some .int)) (by decide) rfl ?_
  intro p e s m args below meth c s₁ B hml hv
  obtain ⟨rfl, hP, hK, hD0⟩ := hv
  have hx := B.exec
  have hb := B.bytes
  have hr := B.returns
  have hts0 := atoms_spec (ws := w_M_restart) B.pre
  have hts : ∀ w ∈ lw_g, w.before _ s = true := fun w h => hts0 w (List.mem_cons_of_mem _ h)
  have hown : s.vm.findClass R_M = some m.cls := findClass_of_methodNamed B.named
  have hlocks := B.notSynchronized
  have hD := k_Dself hD0
  have hDD := hD
  have hS : va_S (k_A (wM cA q N S z)) s.heap s.heap [] := va_S.rf
  have hl := lv_entry ([.ref (q 0)]) (n := 1) (Nat.le_of_ble_eq_true rfl)
  rw [lg_entry_eq]
  generalize (lg_sl ([.ref (q 0)]) ++ List.replicate (1 - (lg_sl ([.ref (q 0)])).length) Slot.unset).toArray = ls at hl ⊢
  have hl : lv_has ls 1 [(0, .ref (q 0))] := hl
  refine lv_aload_n hx hb d_M_restart_0 rfl (lv_at hl 0 rfl) ?_
  refine va_get (D := D) (ci := 4) (v := .int (rDn z)) (C := R_M) (T := T_M) (N := 16) hx hb hts (in_M) hown hK hP 0 rfl rfl 3 (by decide) (hts _ m_f_M_73) (fun _ h9 => h9) rfl d_M_restart_1 ?_
  refine lv_if_ne (tgt := 10) hx hb d_M_restart_4 rfl (fun g4 => ?_) (fun g4 => ?_)
  · refine lv_aload_n hx hb d_M_restart_10 rfl (lv_at hl 0 rfl) ?_
    refine k_roi (va_runV (C := R_M) (As := []) (rest := []) ⟨hx, hb, hml, hown, hts⟩ (c_Model_broken l D cA q N S z (by omega) (by omega) (by omega) (by omega)) (k_cwV 0 hts m_code_M_broken m_ini_M m_l_M_102 m_inst_M_broken m_sel_M_broken h_M_broken rfl rfl ⟨Nat.le_of_ble_eq_true rfl, Nat.le_of_ble_eq_true rfl⟩) (k_pR hP hK [0, 1, 2, 3, 4] rfl 0 4 rfl rfl) rfl rfl hl.1 rfl (lv_room (Nat.le_of_ble_eq_true rfl)) d_M_restart_11 ⟨Nat.zero_le _, Nat.zero_le _⟩) ?_
    refine lv_if_eq (tgt := 20) hx hb d_M_restart_14 rfl (fun g14 => ?_) (fun g14 => ?_)
    · have h14 := of_decide_eq_false (bi_z.mp g14)
      refine lv_aload_n hx hb d_M_restart_20 rfl (lv_at hl 0 rfl) ?_
      refine lv_iconst (v := 0) hx hb d_M_restart_21 (by decide) ?_
      refine va_put (D := D) (ci := 4) (v := .int 0) (ty := .int) (C := R_M) (T := T_M) (N := 16) hx hb hts (in_M) ty_M tyok_M nm_M hown hK hP hD hS 0 rfl rfl 6 (by decide) (hts _ m_f_M_76) (fun _ h9 => h9) rfl (by decide +kernel) rfl rfl (Nat.le_of_ble_eq_true rfl) d_M_restart_22 (fun H locs hP hD hS => ?_)
      have hP : va_P D vwCl (wM cA q N S (tMd z 0)) H := hP
      have hD : va_D (k_A (wM cA q N S z)) (wM cA q N S (tMd z 0)) := wM_D hDD
      refine lv_aload_n hx hb d_M_restart_25 rfl (lv_at hl 0 rfl) ?_
      refine va_get (D := D) (ci := 4) (v := .int (rLs (tMd z 0))) (C := R_M) (T := T_M) (N := 16) hx hb hts (in_M) hown hK hP 0 rfl rfl 13 (by decide) (hts _ m_f_M_22) (fun _ h9 => h9) rfl d_M_restart_26 ?_
      refine k_top (rLs z) (by repeat (first | rw [rLs_tMd])) ?_
      refine lv_if_lt (tgt := 42) hx hb d_M_restart_29 rfl (fun g29 => ?_) (fun g29 => ?_)
      · have h29 := Int32.not_le.mpr g29
        refine lv_aload_n hx hb d_M_restart_42 rfl (lv_at hl 0 rfl) ?_
        refine lv_iconst (v := 0) hx hb d_M_restart_43 (by decide) ?_
        refine va_put (D := D) (ci := 4) (v := .int 0) (ty := .boolean) (C := R_M) (T := T_M) (N := 16) hx hb hts (in_M) ty_M tyok_M nm_M hown hK hP hD hS 0 rfl rfl 3 (by decide) (hts _ m_f_M_73) (fun _ h9 => h9) rfl (by decide +kernel) rfl rfl (Nat.le_of_ble_eq_true rfl) d_M_restart_44 (fun H locs hP hD hS => ?_)
        have hP : va_P D vwCl (wM cA q N S (tDn (tMd z 0) 0)) H := hP
        have hD : va_D (k_A (wM cA q N S z)) (wM cA q N S (tDn (tMd z 0) 0)) := wM_D hDD
        refine lv_aload_n hx hb d_M_restart_47 rfl (lv_at hl 0 rfl) ?_
        refine va_get (D := D) (ci := 4) (v := .int (rMd (tDn (tMd z 0) 0))) (C := R_M) (T := T_M) (N := 16) hx hb hts (in_M) hown hK hP 0 rfl rfl 6 (by decide) (hts _ m_f_M_76) (fun _ h9 => h9) rfl d_M_restart_48 ?_
        refine k_top (0) (by repeat (first | rw [rMd_tDn] | rw [rMd_tMd])) ?_
        have e1 : (rRs N S z).2 = tDn (tMd z 0) 0 := by first | ((try unfold rRs); (try unfold rRs1); (repeat (first | rw [if_pos g4] | rw [if_neg g4] | rw [if_pos g14] | rw [if_neg g14] | rw [if_pos h14] | rw [if_neg h14] | rw [if_pos g29] | rw [if_neg g29] | rw [if_pos h29] | rw [if_neg h29] | rw [rLs_tMd] | rw [rLf_tMd] | rw [rLt_tMd] | rw [rMd_tDn] | rw [rMd_tMd] | rw [rRV_n2] | rw [rRA_n] | rw [if_pos (rfl : (0 : Int32) = 0)] | rw [if_neg (show ¬ (-2 : Int32) = 0 by decide)] | rw [if_neg (show ¬ (-3 : Int32) = 0 by decide)] | rw [if_neg (show ¬ true = false by decide)] | rw [if_pos (show false = false from rfl)] | dsimp only)); first | done | rfl) | rfl
        exact W.iret (v := 0) hx hb hr (fun t ht hW => ⟨⟨_, (), rfl, by first | ((try unfold rRs); (try unfold rRs1); (repeat (first | rw [if_pos g4] | rw [if_neg g4] | rw [if_pos g14] | rw [if_neg g14] | rw [if_pos h14] | rw [if_neg h14] | rw [if_pos g29] | rw [if_neg g29] | rw [if_pos h29] | rw [if_neg h29] | rw [rLs_tMd] | rw [rLf_tMd] | rw [rLt_tMd] | rw [rMd_tDn] | rw [rMd_tMd] | rw [rRV_n2] | rw [rRA_n] | rw [if_pos (rfl : (0 : Int32) = 0)] | rw [if_neg (show ¬ (-2 : Int32) = 0 by decide)] | rw [if_neg (show ¬ (-3 : Int32) = 0 by decide)] | rw [if_neg (show ¬ true = false by decide)] | rw [if_pos (show false = false from rfl)] | dsimp only)); first | done | rfl) | rfl, by show va_P D vwCl (wM cA q N S ((rRs N S z).2)) t.heap; rw [ht, e1]; exact hP⟩, hS.F ht⟩) hS.2.2 d_M_restart_51
      · have h29 := Int32.not_lt.mp g29
        obtain ⟨hb1, hb2, hb3, hb4, hb5, hb6⟩ := rs_lg gN gS hLg g29
        refine lv_aload_n hx hb d_M_restart_32 rfl (lv_at hl 0 rfl) ?_
        refine k_wri (va_runV (C := R_M) (As := []) (rest := []) ⟨hx, hb, hml, hown, hts⟩ (c_Model_apply l D cA q N S (tMd z 0) (by omega) (by omega) (by omega) (by omega) (tn (rLs z)) (tn (rLf z)) (tn (rLt z)) (by exact hb1) (by exact hb2) (by exact hb3) (by exact hb4) (by exact hb5) (by exact hb6)) (k_cwV 0 hts m_code_M_apply m_ini_M m_l_M_130 m_inst_M_apply m_sel_M_apply h_M_apply rfl rfl ⟨Nat.le_of_ble_eq_true rfl, Nat.le_of_ble_eq_true rfl⟩) (k_pW hP hK hD [0, 1, 2, 3, 4] (by decide) rfl 0 4 rfl rfl) rfl rfl hl.1 rfl (lv_room (Nat.le_of_ble_eq_true rfl)) d_M_restart_33 ⟨Nat.zero_le _, Nat.zero_le _⟩) hS hD [0, 1, 2, 3, 4] rfl (fun r u H1 locs hp hk hP1 hS => ?_)
        subst hp
        obtain ⟨u2, hu2⟩ : ∃ w, w = (rAp N (tn (rLs z)) (tn (rLf z)) (tn (rLt z)) (tMd z 0)).2 := ⟨_, rfl⟩
        have hP : va_P D vwCl (wM cA q N S u2) H1 := by rw [hu2]; exact hP1
        have hD : va_D (k_A (wM cA q N S z)) (wM cA q N S u2) := wM_D hDD
        generalize H1 = H at hP hS ⊢
        refine lv_if_ne (tgt := 42) hx hb d_M_restart_36 rfl (fun g36 => ?_) (fun g36 => ?_)
        · have h36 := bi_nz.mp g36
          refine lv_aload_n hx hb d_M_restart_42 rfl (lv_at hl 0 rfl) ?_
          refine lv_iconst (v := 0) hx hb d_M_restart_43 (by decide) ?_
          refine va_put (D := D) (ci := 4) (v := .int 0) (ty := .boolean) (C := R_M) (T := T_M) (N := 16) hx hb hts (in_M) ty_M tyok_M nm_M hown hK hP hD hS 0 rfl rfl 3 (by decide) (hts _ m_f_M_73) (fun _ h9 => h9) rfl (by decide +kernel) rfl rfl (Nat.le_of_ble_eq_true rfl) d_M_restart_44 (fun H locs hP hD hS => ?_)
          have hP : va_P D vwCl (wM cA q N S (tDn u2 0)) H := hP
          have hD : va_D (k_A (wM cA q N S z)) (wM cA q N S (tDn u2 0)) := wM_D hDD
          refine lv_aload_n hx hb d_M_restart_47 rfl (lv_at hl 0 rfl) ?_
          refine va_get (D := D) (ci := 4) (v := .int (rMd (tDn u2 0))) (C := R_M) (T := T_M) (N := 16) hx hb hts (in_M) hown hK hP 0 rfl rfl 6 (by decide) (hts _ m_f_M_76) (fun _ h9 => h9) rfl d_M_restart_48 ?_
          refine k_top (rMd u2) (by repeat (first | rw [rMd_tDn])) ?_
          have e3 : (rRs N S z).2 = tDn u2 0 := by subst hu2; first | ((try unfold rRs); (try unfold rRs1); (repeat (first | rw [if_pos g4] | rw [if_neg g4] | rw [if_pos g14] | rw [if_neg g14] | rw [if_pos h14] | rw [if_neg h14] | rw [if_pos g29] | rw [if_neg g29] | rw [if_pos h29] | rw [if_neg h29] | rw [if_pos g36] | rw [if_neg g36] | rw [if_pos h36] | rw [h36] | rw [rLs_tMd] | rw [rLf_tMd] | rw [rLt_tMd] | rw [rMd_tDn] | rw [rMd_tMd] | rw [rRV_n2] | rw [rRA_n] | rw [if_pos (rfl : (0 : Int32) = 0)] | rw [if_neg (show ¬ (-2 : Int32) = 0 by decide)] | rw [if_neg (show ¬ (-3 : Int32) = 0 by decide)] | rw [if_neg (show ¬ true = false by decide)] | rw [if_pos (show false = false from rfl)] | dsimp only)); first | done | rfl) | rfl
          exact W.iret (v := rMd u2) hx hb hr (fun t ht hW => ⟨⟨_, (), rfl, by subst hu2; first | ((try unfold rRs); (try unfold rRs1); (repeat (first | rw [if_pos g4] | rw [if_neg g4] | rw [if_pos g14] | rw [if_neg g14] | rw [if_pos h14] | rw [if_neg h14] | rw [if_pos g29] | rw [if_neg g29] | rw [if_pos h29] | rw [if_neg h29] | rw [if_pos g36] | rw [if_neg g36] | rw [if_pos h36] | rw [h36] | rw [rLs_tMd] | rw [rLf_tMd] | rw [rLt_tMd] | rw [rMd_tDn] | rw [rMd_tMd] | rw [rRV_n2] | rw [rRA_n] | rw [if_pos (rfl : (0 : Int32) = 0)] | rw [if_neg (show ¬ (-2 : Int32) = 0 by decide)] | rw [if_neg (show ¬ (-3 : Int32) = 0 by decide)] | rw [if_neg (show ¬ true = false by decide)] | rw [if_pos (show false = false from rfl)] | dsimp only)); first | done | rfl) | rfl, by show va_P D vwCl (wM cA q N S ((rRs N S z).2)) t.heap; rw [ht, e3]; exact hP⟩, hS.F ht⟩) hS.2.2 d_M_restart_51
        · have h36 := bi_z.mp g36
          refine lv_bipush (v := (-4)) hx hb d_M_restart_39 (by decide) ?_
          have e4 : (rRs N S z).2 = u2 := by subst hu2; first | ((try unfold rRs); (try unfold rRs1); (repeat (first | rw [if_pos g4] | rw [if_neg g4] | rw [if_pos g14] | rw [if_neg g14] | rw [if_pos h14] | rw [if_neg h14] | rw [if_pos g29] | rw [if_neg g29] | rw [if_pos h29] | rw [if_neg h29] | rw [if_pos g36] | rw [if_neg g36] | rw [if_pos h36] | rw [h36] | rw [rLs_tMd] | rw [rLf_tMd] | rw [rLt_tMd] | rw [rMd_tDn] | rw [rMd_tMd] | rw [rRV_n2] | rw [rRA_n] | rw [if_pos (rfl : (0 : Int32) = 0)] | rw [if_neg (show ¬ (-2 : Int32) = 0 by decide)] | rw [if_neg (show ¬ (-3 : Int32) = 0 by decide)] | rw [if_neg (show ¬ true = false by decide)] | rw [if_pos (show false = false from rfl)] | dsimp only)); first | done | rfl) | rfl
          exact W.iret (v := (-4)) hx hb hr (fun t ht hW => ⟨⟨_, (), rfl, by subst hu2; first | ((try unfold rRs); (try unfold rRs1); (repeat (first | rw [if_pos g4] | rw [if_neg g4] | rw [if_pos g14] | rw [if_neg g14] | rw [if_pos h14] | rw [if_neg h14] | rw [if_pos g29] | rw [if_neg g29] | rw [if_pos h29] | rw [if_neg h29] | rw [if_pos g36] | rw [if_neg g36] | rw [if_pos h36] | rw [h36] | rw [rLs_tMd] | rw [rLf_tMd] | rw [rLt_tMd] | rw [rMd_tDn] | rw [rMd_tMd] | rw [rRV_n2] | rw [rRA_n] | rw [if_pos (rfl : (0 : Int32) = 0)] | rw [if_neg (show ¬ (-2 : Int32) = 0 by decide)] | rw [if_neg (show ¬ (-3 : Int32) = 0 by decide)] | rw [if_neg (show ¬ true = false by decide)] | rw [if_pos (show false = false from rfl)] | dsimp only)); first | done | rfl) | rfl, by show va_P D vwCl (wM cA q N S ((rRs N S z).2)) t.heap; rw [ht, e4]; exact hP⟩, hS.F ht⟩) hS.2.2 d_M_restart_41
    · have h14 := of_decide_eq_true (bi_nz.mp g14)
      refine lv_bipush (v := (-3)) hx hb d_M_restart_17 (by decide) ?_
      have e5 : (rRs N S z).2 = z := by first | ((try unfold rRs); (try unfold rRs1); (repeat (first | rw [if_pos g4] | rw [if_neg g4] | rw [if_pos g14] | rw [if_neg g14] | rw [if_pos h14] | rw [if_neg h14] | rw [rLs_tMd] | rw [rLf_tMd] | rw [rLt_tMd] | rw [rMd_tDn] | rw [rMd_tMd] | rw [rRV_n2] | rw [rRA_n] | rw [if_pos (rfl : (0 : Int32) = 0)] | rw [if_neg (show ¬ (-2 : Int32) = 0 by decide)] | rw [if_neg (show ¬ (-3 : Int32) = 0 by decide)] | rw [if_neg (show ¬ true = false by decide)] | rw [if_pos (show false = false from rfl)] | dsimp only)); first | done | rfl) | rfl
      exact W.iret (v := (-3)) hx hb hr (fun t ht hW => ⟨⟨_, (), rfl, by first | ((try unfold rRs); (try unfold rRs1); (repeat (first | rw [if_pos g4] | rw [if_neg g4] | rw [if_pos g14] | rw [if_neg g14] | rw [if_pos h14] | rw [if_neg h14] | rw [rLs_tMd] | rw [rLf_tMd] | rw [rLt_tMd] | rw [rMd_tDn] | rw [rMd_tMd] | rw [rRV_n2] | rw [rRA_n] | rw [if_pos (rfl : (0 : Int32) = 0)] | rw [if_neg (show ¬ (-2 : Int32) = 0 by decide)] | rw [if_neg (show ¬ (-3 : Int32) = 0 by decide)] | rw [if_neg (show ¬ true = false by decide)] | rw [if_pos (show false = false from rfl)] | dsimp only)); first | done | rfl) | rfl, by show va_P D vwCl (wM cA q N S ((rRs N S z).2)) t.heap; rw [ht, e5]; exact hP⟩, hS.F ht⟩) hS.2.2 d_M_restart_19
  · refine lv_bipush (v := (-8)) hx hb d_M_restart_7 (by decide) ?_
    have e6 : (rRs N S z).2 = z := by first | ((try unfold rRs); (try unfold rRs1); (repeat (first | rw [if_pos g4] | rw [if_neg g4] | rw [rLs_tMd] | rw [rLf_tMd] | rw [rLt_tMd] | rw [rMd_tDn] | rw [rMd_tMd] | rw [rRV_n2] | rw [rRA_n] | rw [if_pos (rfl : (0 : Int32) = 0)] | rw [if_neg (show ¬ (-2 : Int32) = 0 by decide)] | rw [if_neg (show ¬ (-3 : Int32) = 0 by decide)] | rw [if_neg (show ¬ true = false by decide)] | rw [if_pos (show false = false from rfl)] | dsimp only)); first | done | rfl) | rfl
    exact W.iret (v := (-8)) hx hb hr (fun t ht hW => ⟨⟨_, (), rfl, by first | ((try unfold rRs); (try unfold rRs1); (repeat (first | rw [if_pos g4] | rw [if_neg g4] | rw [rLs_tMd] | rw [rLf_tMd] | rw [rLt_tMd] | rw [rMd_tDn] | rw [rMd_tMd] | rw [rRV_n2] | rw [rRA_n] | rw [if_pos (rfl : (0 : Int32) = 0)] | rw [if_neg (show ¬ (-2 : Int32) = 0 by decide)] | rw [if_neg (show ¬ (-3 : Int32) = 0 by decide)] | rw [if_neg (show ¬ true = false by decide)] | rw [if_pos (show false = false from rfl)] | dsimp only)); first | done | rfl) | rfl, by show va_P D vwCl (wM cA q N S ((rRs N S z).2)) t.heap; rw [ht, e6]; exact hP⟩, hS.F ht⟩) hS.2.2 d_M_restart_9
set_option maxHeartbeats 4000000 in
set_option maxRecDepth 100000 in
theorem c_Model_faults (l : Launch) (D : va_G) (cA : ClassId) (q : Nat → Nat) (N S : Nat) (z : RS) (gN4 : 4 ≤ N) (gN : N ≤ 10) (gS1 : 1 ≤ S) (gS : S ≤ 16) : Met l y_M_faults w_M_faults ({ frames := 4, cells := 0, slots := 0, locals := 96 }) (va_Pc [.ref (q 0)] (k_Wc D [(cA, .int)] (wM cA q N S z))) (va_Qi (fun (r : Int32) (_ : Unit) => r = (rFa N S z).1) (fun _ t => va_P D vwCl (wM cA q N S ((rFa N S z).2)) t.heap) (k_A (wM cA q N S z))) 0 0 (k_A (wM cA q N S z)) := by
  refine Met.ofW (cc := b_M_faults) (maxL := 3) (ret := (some .int)) (by decide) rfl ?_
  intro p e s m args below meth c s₁ B hml hv
  obtain ⟨rfl, hP, hK, hD0⟩ := hv
  have hx := B.exec
  have hb := B.bytes
  have hr := B.returns
  have hts0 := atoms_spec (ws := w_M_faults) B.pre
  have hts : ∀ w ∈ lw_g, w.before _ s = true := fun w h => hts0 w (List.mem_cons_of_mem _ h)
  have hown : s.vm.findClass R_M = some m.cls := findClass_of_methodNamed B.named
  have hlocks := B.notSynchronized
  have hD := k_Dself hD0
  have hDD := hD
  have hS : va_S (k_A (wM cA q N S z)) s.heap s.heap [] := va_S.rf
  have hl := lv_entry ([.ref (q 0)]) (n := 3) (Nat.le_of_ble_eq_true rfl)
  rw [lg_entry_eq]
  generalize (lg_sl ([.ref (q 0)]) ++ List.replicate (3 - (lg_sl ([.ref (q 0)])).length) Slot.unset).toArray = ls at hl ⊢
  have hl : lv_has ls 3 [(0, .ref (q 0))] := hl
  refine lv_aload_n hx hb d_M_faults_0 rfl (lv_at hl 0 rfl) ?_
  refine k_roi (va_runV (C := R_M) (As := []) (rest := []) ⟨hx, hb, hml, hown, hts⟩ (c_Model_broken l D cA q N S z (by omega) (by omega) (by omega) (by omega)) (k_cwV 0 hts m_code_M_broken m_ini_M m_l_M_102 m_inst_M_broken m_sel_M_broken h_M_broken rfl rfl ⟨Nat.le_of_ble_eq_true rfl, Nat.le_of_ble_eq_true rfl⟩) (k_pR hP hK [0, 1, 2, 3, 4] rfl 0 4 rfl rfl) rfl rfl hl.1 rfl (lv_room (Nat.le_of_ble_eq_true rfl)) d_M_faults_1 ⟨Nat.zero_le _, Nat.zero_le _⟩) ?_
  refine lv_if_eq (tgt := 10) hx hb d_M_faults_4 rfl (fun g4 => ?_) (fun g4 => ?_)
  · have h4 := of_decide_eq_false (bi_z.mp g4)
    refine lv_iconst (v := 0) hx hb d_M_faults_10 (by decide) ?_
    refine lv_istore_n (lv' := [(1, .int 0), (0, .ref (q 0))]) hx hb d_M_faults_11 rfl hl (by decide) rfl (fun ls hl => ?_)
    refine lv_iconst (v := 0) hx hb d_M_faults_12 (by decide) ?_
    refine lv_istore_n (lv' := [(2, .int 0), (1, .int 0), (0, .ref (q 0))]) hx hb d_M_faults_13 rfl hl (by decide) rfl (fun ls hl => ?_)
    have L14 : ∀ (k : Nat) (i : Nat) (zi : RS) (ls : Array Slot) (H : Heap) (locs : List Loc), i + k = S → zi = (rFaL N S z i).2 → lv_has ls 3 [(0, .ref (q 0)), (1, .int (nI ((rFaL N S z i).1))), (2, .int (nI i))] → va_P D vwCl (wM cA q N S zi) H → va_S (k_A (wM cA q N S z)) s.heap H locs → W p l e (headSpec w_M_faults ({ frames := 4, cells := 0, slots := 0, locals := 96 })).room s m ([.ref (q 0)] : List Value).toArray below meth c H locs 0 0 (MQ below (va_Qi (fun (r : Int32) (_ : Unit) => r = (rFa N S z).1) (fun _ t => va_P D vwCl (wM cA q N S ((rFa N S z).2)) t.heap) (k_A (wM cA q N S z))) ([.ref (q 0)] : List Value).toArray s 0 0 (k_A (wM cA q N S z))) (F0 m 14 ls []) := by
      intro k
      induction k with
      | zero =>
        intro i zi ls H locs hk hzi hl hP hS
        have hD : va_D _ (wM cA q N S zi) := wM_D hDD
        obtain rfl : S = i := by omega
        refine lv_iload_n hx hb d_M_faults_14 rfl (lv_at hl 2 rfl) ?_
        refine lv_aload_n hx hb d_M_faults_15 rfl (lv_at hl 0 rfl) ?_
        refine va_get (D := D) (ci := 4) (v := .int (nI S)) (C := R_M) (T := T_M) (N := 16) hx hb hts (in_M) hown hK hP 0 rfl rfl 1 (by decide) (hts _ m_f_M_29) (fun _ h9 => h9) rfl d_M_faults_16 ?_
        refine lv_icmp_ge (tgt := 69) hx hb d_M_faults_19 rfl (fun g19 => ?_) (fun g19 => ?_)
        · have h19 : S ≤ S := (nI_leI (a := S) (b := S) (by omega) (by omega)).mp g19
          have k19 : ¬ S < S := by omega
          refine lv_iload_n hx hb d_M_faults_69 rfl (lv_at hl 1 rfl) ?_
          have e1 : (rFa N S z).2 = zi := by unfold rFa; rw [if_neg h4]; exact hzi.symm
          exact W.iret (v := nI ((rFaL N S z S).1)) hx hb hr (fun t ht hW => ⟨⟨_, (), rfl, by first | ((try unfold rFa); (repeat (first | rw [if_pos g4] | rw [if_neg g4] | rw [if_pos h4] | rw [if_neg h4] | rw [if_pos g19] | rw [if_neg g19] | rw [if_pos h19] | rw [if_neg h19] | rw [if_pos k19] | rw [if_neg k19] | rw [rRV_n2] | rw [rRA_n] | rw [if_pos (rfl : (0 : Int32) = 0)] | rw [if_neg (show ¬ (-2 : Int32) = 0 by decide)] | rw [if_neg (show ¬ (-3 : Int32) = 0 by decide)] | rw [if_neg (show ¬ true = false by decide)] | rw [if_pos (show false = false from rfl)] | dsimp only)); first | done | rfl) | rfl, by show va_P D vwCl (wM cA q N S ((rFa N S z).2)) t.heap; rw [ht, e1]; exact hP⟩, hS.F ht⟩) hS.2.2 d_M_faults_70
        · have h19 : ¬ S ≤ S := fun q9 => g19 ((nI_leI (a := S) (b := S) (by omega) (by omega)).mpr q9)
          have k19 : S < S := by omega
          exfalso; omega
      | succ k ih =>
        intro i zi ls H locs hk hzi hl hP hS
        have hD : va_D _ (wM cA q N S zi) := wM_D hDD
        refine lv_iload_n hx hb d_M_faults_14 rfl (lv_at hl 2 rfl) ?_
        refine lv_aload_n hx hb d_M_faults_15 rfl (lv_at hl 0 rfl) ?_
        refine va_get (D := D) (ci := 4) (v := .int (nI S)) (C := R_M) (T := T_M) (N := 16) hx hb hts (in_M) hown hK hP 0 rfl rfl 1 (by decide) (hts _ m_f_M_29) (fun _ h9 => h9) rfl d_M_faults_16 ?_
        refine lv_icmp_ge (tgt := 69) hx hb d_M_faults_19 rfl (fun g19 => ?_) (fun g19 => ?_)
        · have h19 : S ≤ i := (nI_leI (a := S) (b := i) (by omega) (by omega)).mp g19
          have k19 : ¬ i < S := by omega
          exfalso; omega
        · have h19 : ¬ S ≤ i := fun q9 => g19 ((nI_leI (a := S) (b := i) (by omega) (by omega)).mpr q9)
          have k19 : i < S := by omega
          refine lv_aload_n hx hb d_M_faults_22 rfl (lv_at hl 0 rfl) ?_
          refine lv_iload_n hx hb d_M_faults_23 rfl (lv_at hl 2 rfl) ?_
          refine k_wrv (va_runV (C := R_M) (As := [.int (nI i)]) (rest := []) ⟨hx, hb, hml, hown, hts⟩ (c_Model_values l D cA q N S zi (by omega) (by omega) (by omega) (by omega) i (by omega)) (k_cwV 1 hts m_code_M_values m_ini_M m_l_M_116 m_inst_M_values m_sel_M_values h_M_values rfl rfl ⟨Nat.le_of_ble_eq_true rfl, Nat.le_of_ble_eq_true rfl⟩) (k_pW hP hK hD [0, 1, 2, 3, 4] (by decide) rfl 0 4 rfl rfl) rfl rfl hl.1 rfl (lv_room (Nat.le_of_ble_eq_true rfl)) d_M_faults_24 ⟨Nat.zero_le _, Nat.zero_le _⟩) hS hD [0, 1, 2, 3, 4] rfl (fun u H1 locs _ hk hP1 hS => ?_)
          have hP : va_P D vwCl (wM cA q N S (tV zi (rVal N i (rW zi) (rP zi) (rV zi)))) H1 := hP1
          have hD : va_D (k_A (wM cA q N S z)) (wM cA q N S (tV zi (rVal N i (rW zi) (rP zi) (rV zi)))) := wM_D hDD
          generalize H1 = H at hP hS ⊢
          refine lv_iload_n hx hb d_M_faults_27 rfl (lv_at hl 1 rfl) ?_
          refine lv_aload_n hx hb d_M_faults_28 rfl (lv_at hl 0 rfl) ?_
          refine va_get (D := D) (ci := 4) (v := .ref (q 3)) (C := R_M) (T := T_M) (N := 16) hx hb hts (in_M) hown hK hP 0 rfl rfl 11 (by decide) (hts _ m_f_M_16) (fun _ h9 => h9) rfl d_M_faults_29 ?_
          refine lv_bipush (v := 8) hx hb d_M_faults_32 (by decide) ?_
          refine va_iald (n := 10) (f := rV (tV zi (rVal N i (rW zi) (rP zi) (rV zi)))) hx hb hK hP 3 0 rfl rfl (vp_in_nI (n := 8) (by omega) (by omega)) d_M_faults_34 ?_
          refine k_top ((rV (tV zi (rVal N i (rW zi) (rP zi) (rV zi)))) 8) (by rw [show (8 : Int32).toNatClampNeg = 8 from nI_clamp (n := 8) (by omega)]) ?_
          refine k_top ((rVal N i (rW zi) (rP zi) (rV zi)) 8) (by repeat (first | rw [rV_tV])) ?_
          refine lv_aload_n hx hb d_M_faults_35 rfl (lv_at hl 0 rfl) ?_
          refine k_roi (va_runV (C := R_M) (As := []) (rest := [.int ((rVal N i (rW zi) (rP zi) (rV zi)) 8), .int (nI ((rFaL N S z i).1))]) ⟨hx, hb, hml, hown, hts⟩ (c_Model_sum l D cA q N S (tV zi (rVal N i (rW zi) (rP zi) (rV zi))) (by omega) (by omega) (by omega) (by omega)) (k_cwV 0 hts m_code_M_sum m_ini_M m_l_M_52 m_inst_M_sum m_sel_M_sum h_M_sum rfl rfl ⟨Nat.le_of_ble_eq_true rfl, Nat.le_of_ble_eq_true rfl⟩) (k_pR hP hK [0, 1, 2, 3, 4] rfl 0 4 rfl rfl) rfl rfl hl.1 rfl (lv_room (Nat.le_of_ble_eq_true rfl)) d_M_faults_36 ⟨Nat.zero_le _, Nat.zero_le _⟩) ?_
          refine k_top (fgL (rVal N i (rW zi) (rP zi) (rV zi)) 0 (N - 2)) (by repeat (first | rw [rV_tV])) ?_
          refine lv_icmp_ne (tgt := 56) hx hb d_M_faults_39 rfl (fun g39 => ?_) (fun g39 => ?_)
          · refine lv_iconst (v := 1) hx hb d_M_faults_56 (by decide) ?_
            refine lv_goto hx hb d_M_faults_57 rfl ?_
            refine lv_iadd hx hb d_M_faults_61 ?_
            refine k_top (nI ((rFaL N S z i).1 + 1)) (nI_add ((rFaL N S z i).1) 1) ?_
            refine lv_istore_n (lv' := [(1, .int (nI ((rFaL N S z i).1 + 1))), (0, .ref (q 0)), (2, .int (nI i))]) hx hb d_M_faults_62 rfl hl (by decide) rfl (fun ls hl => ?_)
            refine lv_iinc (k := 2) (v := nI (i + 1)) (lv' := [(2, .int (nI (i + 1))), (1, .int (nI ((rFaL N S z i).1 + 1))), (0, .ref (q 0))]) hx hb d_M_faults_63 hl rfl (nI_add i 1) (by decide) rfl (fun ls hl => ?_)
            refine lv_goto hx hb d_M_faults_66 rfl ?_
            have e2 : nI ((rFaL N S z (i + 1)).1) = nI ((rFaL N S z i).1 + 1) := by first | rfl | (subst hzi; first | rfl | (congr 1; show (if ¬ rV (rRV N i (rFaL N S z i).2) 8 = fgL (rV (rRV N i (rFaL N S z i).2)) 0 (N - 2) ∨ ¬ rV (rRV N i (rFaL N S z i).2) 9 = wsR (rV (rRV N i (rFaL N S z i).2)) (N - 2) then (rFaL N S z i).1 + 1 else (rFaL N S z i).1) = _; first | exact if_pos (Or.inl g39) | exact if_pos (Or.inr g53) | exact if_neg (fun w => w.elim (fun w => w g39) (fun w => w g53))))
            exact ih (i + 1) (tV zi (rVal N i (rW zi) (rP zi) (rV zi))) ls H locs (by omega) (by first | rfl | (subst hzi; rfl)) (by rw [e2]; exact lv_sub hl [2, 1, 0] rfl) hP hS
          · refine lv_aload_n hx hb d_M_faults_42 rfl (lv_at hl 0 rfl) ?_
            refine va_get (D := D) (ci := 4) (v := .ref (q 3)) (C := R_M) (T := T_M) (N := 16) hx hb hts (in_M) hown hK hP 0 rfl rfl 11 (by decide) (hts _ m_f_M_16) (fun _ h9 => h9) rfl d_M_faults_43 ?_
            refine lv_bipush (v := 9) hx hb d_M_faults_46 (by decide) ?_
            refine va_iald (n := 10) (f := rV (tV zi (rVal N i (rW zi) (rP zi) (rV zi)))) hx hb hK hP 3 0 rfl rfl (vp_in_nI (n := 9) (by omega) (by omega)) d_M_faults_48 ?_
            refine k_top ((rV (tV zi (rVal N i (rW zi) (rP zi) (rV zi)))) 9) (by rw [show (9 : Int32).toNatClampNeg = 9 from nI_clamp (n := 9) (by omega)]) ?_
            refine k_top ((rVal N i (rW zi) (rP zi) (rV zi)) 9) (by repeat (first | rw [rV_tV])) ?_
            refine lv_aload_n hx hb d_M_faults_49 rfl (lv_at hl 0 rfl) ?_
            refine k_roi (va_runV (C := R_M) (As := []) (rest := [.int ((rVal N i (rW zi) (rP zi) (rV zi)) 9), .int (nI ((rFaL N S z i).1))]) ⟨hx, hb, hml, hown, hts⟩ (c_Model_weighted l D cA q N S (tV zi (rVal N i (rW zi) (rP zi) (rV zi))) (by omega) (by omega) (by omega) (by omega)) (k_cwV 0 hts m_code_M_weighted m_ini_M m_l_M_56 m_inst_M_weighted m_sel_M_weighted h_M_weighted rfl rfl ⟨Nat.le_of_ble_eq_true rfl, Nat.le_of_ble_eq_true rfl⟩) (k_pR hP hK [0, 1, 2, 3, 4] rfl 0 4 rfl rfl) rfl rfl hl.1 rfl (lv_room (Nat.le_of_ble_eq_true rfl)) d_M_faults_50 ⟨Nat.zero_le _, Nat.zero_le _⟩) ?_
            refine k_top (wsR (rVal N i (rW zi) (rP zi) (rV zi)) (N - 2)) (by repeat (first | rw [rV_tV])) ?_
            refine lv_icmp_eq (tgt := 60) hx hb d_M_faults_53 rfl (fun g53 => ?_) (fun g53 => ?_)
            · refine lv_iconst (v := 0) hx hb d_M_faults_60 (by decide) ?_
              refine lv_iadd hx hb d_M_faults_61 ?_
              refine k_top (nI ((rFaL N S z i).1 + 0)) (nI_add ((rFaL N S z i).1) 0) ?_
              refine lv_istore_n (lv' := [(1, .int (nI ((rFaL N S z i).1 + 0))), (0, .ref (q 0)), (2, .int (nI i))]) hx hb d_M_faults_62 rfl hl (by decide) rfl (fun ls hl => ?_)
              refine lv_iinc (k := 2) (v := nI (i + 1)) (lv' := [(2, .int (nI (i + 1))), (1, .int (nI ((rFaL N S z i).1 + 0))), (0, .ref (q 0))]) hx hb d_M_faults_63 hl rfl (nI_add i 1) (by decide) rfl (fun ls hl => ?_)
              refine lv_goto hx hb d_M_faults_66 rfl ?_
              have e3 : nI ((rFaL N S z (i + 1)).1) = nI ((rFaL N S z i).1 + 0) := by first | rfl | (subst hzi; first | rfl | (congr 1; show (if ¬ rV (rRV N i (rFaL N S z i).2) 8 = fgL (rV (rRV N i (rFaL N S z i).2)) 0 (N - 2) ∨ ¬ rV (rRV N i (rFaL N S z i).2) 9 = wsR (rV (rRV N i (rFaL N S z i).2)) (N - 2) then (rFaL N S z i).1 + 1 else (rFaL N S z i).1) = _; first | exact if_pos (Or.inl g39) | exact if_pos (Or.inr g53) | exact if_neg (fun w => w.elim (fun w => w g39) (fun w => w g53))))
              exact ih (i + 1) (tV zi (rVal N i (rW zi) (rP zi) (rV zi))) ls H locs (by omega) (by first | rfl | (subst hzi; rfl)) (by rw [e3]; exact lv_sub hl [2, 1, 0] rfl) hP hS
            · refine lv_iconst (v := 1) hx hb d_M_faults_56 (by decide) ?_
              refine lv_goto hx hb d_M_faults_57 rfl ?_
              refine lv_iadd hx hb d_M_faults_61 ?_
              refine k_top (nI ((rFaL N S z i).1 + 1)) (nI_add ((rFaL N S z i).1) 1) ?_
              refine lv_istore_n (lv' := [(1, .int (nI ((rFaL N S z i).1 + 1))), (0, .ref (q 0)), (2, .int (nI i))]) hx hb d_M_faults_62 rfl hl (by decide) rfl (fun ls hl => ?_)
              refine lv_iinc (k := 2) (v := nI (i + 1)) (lv' := [(2, .int (nI (i + 1))), (1, .int (nI ((rFaL N S z i).1 + 1))), (0, .ref (q 0))]) hx hb d_M_faults_63 hl rfl (nI_add i 1) (by decide) rfl (fun ls hl => ?_)
              refine lv_goto hx hb d_M_faults_66 rfl ?_
              have e4 : nI ((rFaL N S z (i + 1)).1) = nI ((rFaL N S z i).1 + 1) := by first | rfl | (subst hzi; first | rfl | (congr 1; show (if ¬ rV (rRV N i (rFaL N S z i).2) 8 = fgL (rV (rRV N i (rFaL N S z i).2)) 0 (N - 2) ∨ ¬ rV (rRV N i (rFaL N S z i).2) 9 = wsR (rV (rRV N i (rFaL N S z i).2)) (N - 2) then (rFaL N S z i).1 + 1 else (rFaL N S z i).1) = _; first | exact if_pos (Or.inl g39) | exact if_pos (Or.inr g53) | exact if_neg (fun w => w.elim (fun w => w g39) (fun w => w g53))))
              exact ih (i + 1) (tV zi (rVal N i (rW zi) (rP zi) (rV zi))) ls H locs (by omega) (by first | rfl | (subst hzi; rfl)) (by rw [e4]; exact lv_sub hl [2, 1, 0] rfl) hP hS
    have e5 : nI ((rFaL N S z 0).1) = 0 := by first | rfl | (subst hzi; first | rfl | (congr 1; show (if ¬ rV (rRV N i (rFaL N S z i).2) 8 = fgL (rV (rRV N i (rFaL N S z i).2)) 0 (N - 2) ∨ ¬ rV (rRV N i (rFaL N S z i).2) 9 = wsR (rV (rRV N i (rFaL N S z i).2)) (N - 2) then (rFaL N S z i).1 + 1 else (rFaL N S z i).1) = _; first | exact if_pos (Or.inl g39) | exact if_pos (Or.inr g53) | exact if_neg (fun w => w.elim (fun w => w g39) (fun w => w g53))))
    have e6 : nI 0 = 0 := by first | ((try unfold rFa); (repeat (first | rw [if_pos g4] | rw [if_neg g4] | rw [if_pos h4] | rw [if_neg h4] | rw [rRV_n2] | rw [rRA_n] | rw [if_pos (rfl : (0 : Int32) = 0)] | rw [if_neg (show ¬ (-2 : Int32) = 0 by decide)] | rw [if_neg (show ¬ (-3 : Int32) = 0 by decide)] | rw [if_neg (show ¬ true = false by decide)] | rw [if_pos (show false = false from rfl)] | dsimp only)); first | done | rfl) | rfl
    exact L14 S 0 z ls s.heap [] (by omega) (by first | rfl | (subst hzi; rfl)) (by rw [e5, e6]; exact lv_sub hl [2, 1, 0] rfl) hP hS
  · have h4 := of_decide_eq_true (bi_nz.mp g4)
    refine lv_bipush (v := (-3)) hx hb d_M_faults_7 (by decide) ?_
    have e7 : (rFa N S z).2 = z := by first | ((try unfold rFa); (repeat (first | rw [if_pos g4] | rw [if_neg g4] | rw [if_pos h4] | rw [if_neg h4] | rw [rRV_n2] | rw [rRA_n] | rw [if_pos (rfl : (0 : Int32) = 0)] | rw [if_neg (show ¬ (-2 : Int32) = 0 by decide)] | rw [if_neg (show ¬ (-3 : Int32) = 0 by decide)] | rw [if_neg (show ¬ true = false by decide)] | rw [if_pos (show false = false from rfl)] | dsimp only)); first | done | rfl) | rfl
    exact W.iret (v := (-3)) hx hb hr (fun t ht hW => ⟨⟨_, (), rfl, by first | ((try unfold rFa); (repeat (first | rw [if_pos g4] | rw [if_neg g4] | rw [if_pos h4] | rw [if_neg h4] | rw [rRV_n2] | rw [rRA_n] | rw [if_pos (rfl : (0 : Int32) = 0)] | rw [if_neg (show ¬ (-2 : Int32) = 0 by decide)] | rw [if_neg (show ¬ (-3 : Int32) = 0 by decide)] | rw [if_neg (show ¬ true = false by decide)] | rw [if_pos (show false = false from rfl)] | dsimp only)); first | done | rfl) | rfl, by show va_P D vwCl (wM cA q N S ((rFa N S z).2)) t.heap; rw [ht, e7]; exact hP⟩, hS.F ht⟩) hS.2.2 d_M_faults_9
set_option maxHeartbeats 4000000 in
set_option maxRecDepth 100000 in
theorem c_Model_peek (l : Launch) (D : va_G) (cA : ClassId) (q : Nat → Nat) (N S : Nat) (z : RS) (gN4 : 4 ≤ N) (gN : N ≤ 10) (gS1 : 1 ≤ S) (gS : S ≤ 16) (x y : Int32) : Met l y_M_peek w_M_peek ({ frames := 1, cells := 0, slots := 0, locals := 22 }) (va_Pc [.ref (q 0), .int x, .int y] (k_R D [(cA, .int)] (wM cA q N S z))) (k_Ro (some (.long (rPk N S x y z)))) 0 0 (fun _ => False) := by
  refine Met.ofW (cc := b_M_peek) (maxL := 3) (ret := (some .long)) (by decide) rfl ?_
  intro p e s m args below meth c s₁ B hml hv
  obtain ⟨rfl, hP, hK⟩ := hv
  have hx := B.exec
  have hb := B.bytes
  have hr := B.returns
  have hts0 := atoms_spec (ws := w_M_peek) B.pre
  have hts : ∀ w ∈ lw_g, w.before _ s = true := fun w h => hts0 w (List.mem_cons_of_mem _ h)
  have hown : s.vm.findClass R_M = some m.cls := findClass_of_methodNamed B.named
  have hlocks := B.notSynchronized
  have hl := lv_entry ([.ref (q 0), .int x, .int y]) (n := 3) (Nat.le_of_ble_eq_true rfl)
  rw [lg_entry_eq]
  generalize (lg_sl ([.ref (q 0), .int x, .int y]) ++ List.replicate (3 - (lg_sl ([.ref (q 0), .int x, .int y])).length) Slot.unset).toArray = ls at hl ⊢
  have hl : lv_has ls 3 [(0, .ref (q 0)), (1, .int x), (2, .int y)] := hl
  refine lv_aload_n hx hb d_M_peek_0 rfl (lv_at hl 0 rfl) ?_
  refine lv_iload_n hx hb d_M_peek_1 rfl (lv_at hl 1 rfl) ?_
  refine lv_iload_n hx hb d_M_peek_2 rfl (lv_at hl 2 rfl) ?_
  refine k_roi (va_runV (C := R_M) (As := [.int x, .int y]) (rest := []) ⟨hx, hb, hml, hown, hts⟩ (c_Model_isCell l D cA q N S z (by omega) (by omega) (by omega) (by omega) x y) (k_cwV 2 hts m_code_M_isCell m_ini_M m_l_M_136 m_inst_M_isCell m_sel_M_isCell h_M_isCell rfl rfl ⟨Nat.le_of_ble_eq_true rfl, Nat.le_of_ble_eq_true rfl⟩) (k_pR hP hK [0, 1, 2, 3, 4] rfl 0 4 rfl rfl) rfl rfl hl.1 rfl (lv_room (Nat.le_of_ble_eq_true rfl)) d_M_peek_3 ⟨Nat.zero_le _, Nat.zero_le _⟩) ?_
  refine lv_if_eq (tgt := 28) hx hb d_M_peek_6 rfl (fun g6 => ?_) (fun g6 => ?_)
  · have h6 := of_decide_eq_false (bi_z.mp g6)
    refine lv_ldc2 (v := (-1)) hx hb hown (hts _ m_c_M_100) d_M_peek_28 ?_
    refine k_topl (rPk N S x y z) (by unfold rPk; first | (rw [if_pos hin, if_pos hp9]; rfl) | (split; (rename_i w1; split; (rename_i w2; exact absurd ⟨w1, w2⟩ h6); rfl); rfl)) ?_
    exact W.lret (v := rPk N S x y z) hx hb hr (fun t ht hW => ⟨rfl, ht⟩) (fun _ h => by cases h) d_M_peek_31
  · have h6 := of_decide_eq_true (bi_nz.mp g6)
    obtain ⟨⟨hx9, hy9⟩, hp9⟩ := h6
    obtain ⟨hx1, hx2⟩ := tn_of (by omega) hx9
    obtain ⟨hy1, hy2⟩ := tn_of (by omega) hy9
    have hin : (¬ x < 0 ∧ ¬ nI N ≤ x) ∧ (¬ y < 0 ∧ ¬ nI S ≤ y) := ⟨hx9, hy9⟩
    have hl : lv_has ls 3 [(0, .ref (q 0)), (1, .int (nI (tn x))), (2, .int (nI (tn y)))] := by rw [← hx2, ← hy2]; exact hl
    refine lv_aload_n hx hb d_M_peek_9 rfl (lv_at hl 0 rfl) ?_
    refine va_get (D := D) (ci := 4) (v := .ref (q 1)) (C := R_M) (T := T_M) (N := 16) hx hb hts (in_M) hown hK hP 0 rfl rfl 9 (by decide) (hts _ m_f_M_7) (fun _ h9 => h9) rfl d_M_peek_10 ?_
    refine lv_bipush (v := 16) hx hb d_M_peek_13 (by decide) ?_
    refine lv_iload_n hx hb d_M_peek_15 rfl (lv_at hl 1 rfl) ?_
    refine lv_imul hx hb d_M_peek_16 ?_
    refine k_top (nI (16 * (tn x))) (pk_mul 16 (tn x)) ?_
    refine lv_iload_n hx hb d_M_peek_17 rfl (lv_at hl 2 rfl) ?_
    refine lv_iadd hx hb d_M_peek_18 ?_
    refine k_top (nI (16 * (tn x) + (tn y))) (nI_add (16 * (tn x)) (tn y)) ?_
    refine va_iald (n := 160) (f := rW z) hx hb hK hP 1 0 rfl rfl (vp_in_nI (by omega) (by omega)) d_M_peek_19 ?_
    refine k_top ((rW z) (16 * (tn x) + (tn y))) (by rw [show (nI (16 * (tn x) + (tn y)) : Int32).toNatClampNeg = 16 * (tn x) + (tn y) from nI_clamp (n := 16 * (tn x) + (tn y)) (by omega)]) ?_
    refine lv_i2l (v := ((rW z) (16 * (tn x) + (tn y))).toInt64) hx hb d_M_peek_20 rfl ?_
    refine lv_ldc2 (v := 4294967295) hx hb hown (hts _ m_c_M_120) d_M_peek_21 ?_
    refine lv_land hx hb d_M_peek_24 ?_
    refine lv_goto hx hb d_M_peek_25 rfl ?_
    refine k_topl (rPk N S x y z) (by unfold rPk; first | (rw [if_pos hin, if_pos hp9]; rfl) | (split; (rename_i w1; split; (rename_i w2; exact absurd ⟨w1, w2⟩ h6); rfl); rfl)) ?_
    exact W.lret (v := rPk N S x y z) hx hb hr (fun t ht hW => ⟨rfl, ht⟩) (fun _ h => by cases h) d_M_peek_31
set_option maxHeartbeats 4000000 in
set_option maxRecDepth 100000 in
theorem c_Model_locate (l : Launch) (D : va_G) (cA : ClassId) (q : Nat → Nat) (N S : Nat) (z : RS) (gN4 : 4 ≤ N) (gN : N ≤ 10) (gS1 : 1 ≤ S) (gS : S ≤ 16) (x : Int32) : Met l y_M_locate w_M_locate ({ frames := 1, cells := 0, slots := 0, locals := 23 }) (va_Pc [.ref (q 0), .int x] (k_R D [(cA, .int)] (wM cA q N S z))) (k_Ro (some (.int (loc N S x)))) 0 0 (fun _ => False) := by
  refine Met.ofW (cc := b_M_locate) (maxL := 2) (ret := (some .int)) (by decide) rfl ?_
  intro p e s m args below meth c s₁ B hml hv
  obtain ⟨rfl, hP, hK⟩ := hv
  have hx := B.exec
  have hb := B.bytes
  have hr := B.returns
  have hts0 := atoms_spec (ws := w_M_locate) B.pre
  have hts : ∀ w ∈ lw_g, w.before _ s = true := fun w h => hts0 w (List.mem_cons_of_mem _ h)
  have hown : s.vm.findClass R_M = some m.cls := findClass_of_methodNamed B.named
  have hlocks := B.notSynchronized
  have hl := lv_entry ([.ref (q 0), .int x]) (n := 2) (Nat.le_of_ble_eq_true rfl)
  rw [lg_entry_eq]
  generalize (lg_sl ([.ref (q 0), .int x]) ++ List.replicate (2 - (lg_sl ([.ref (q 0), .int x])).length) Slot.unset).toArray = ls at hl ⊢
  have hl : lv_has ls 2 [(0, .ref (q 0)), (1, .int x)] := hl
  have hSN : S * (N - 2) ≤ 16 * 8 := Nat.mul_le_mul gS (by omega)
  refine lv_aload_n hx hb d_M_locate_0 rfl (lv_at hl 0 rfl) ?_
  refine lv_iload_n hx hb d_M_locate_1 rfl (lv_at hl 1 rfl) ?_
  refine k_roi (va_runV (C := R_M) (As := [.int x]) (rest := []) ⟨hx, hb, hml, hown, hts⟩ (c_Model_isBlock l D cA q N S z (by omega) (by omega) (by omega) (by omega) x) (k_cwV 1 hts m_code_M_isBlock m_ini_M m_l_M_96 m_inst_M_isBlock m_sel_M_isBlock h_M_isBlock rfl rfl ⟨Nat.le_of_ble_eq_true rfl, Nat.le_of_ble_eq_true rfl⟩) (k_pR hP hK [0, 1, 2, 3, 4] rfl 0 4 rfl rfl) rfl rfl hl.1 rfl (lv_room (Nat.le_of_ble_eq_true rfl)) d_M_locate_2 ⟨Nat.zero_le _, Nat.zero_le _⟩) ?_
  refine lv_if_eq (tgt := 31) hx hb d_M_locate_5 rfl (fun g5 => ?_) (fun g5 => ?_)
  · have h5 := of_decide_eq_false (bi_z.mp g5)
    refine lv_iconst (v := (-1)) hx hb d_M_locate_31 (by decide) ?_
    refine k_top (loc N S x) (by unfold loc; first | rw [if_pos h5, rdk_c (by omega)] | rw [if_neg h5]) ?_
    exact W.iret (v := loc N S x) hx hb hr (fun t ht hW => ⟨rfl, ht⟩) (fun _ h => by cases h) d_M_locate_32
  · have h5 := of_decide_eq_true (bi_nz.mp g5)
    obtain ⟨hx1, hx2⟩ := tn_of (by omega) h5
    have hq1 : tn x % (N - 2) < N - 2 := Nat.mod_lt _ (by omega)
    have hq2 : tn x / (N - 2) < S := (Nat.div_lt_iff_lt_mul (by omega)).mpr hx1
    have hl : lv_has ls 2 [(0, .ref (q 0)), (1, .int (nI (tn x)))] := by rw [← hx2]; exact hl
    refine lv_aload_n hx hb d_M_locate_8 rfl (lv_at hl 0 rfl) ?_
    refine lv_iload_n hx hb d_M_locate_9 rfl (lv_at hl 1 rfl) ?_
    refine lv_aload_n hx hb d_M_locate_10 rfl (lv_at hl 0 rfl) ?_
    refine va_get (D := D) (ci := 4) (v := .int (nI N)) (C := R_M) (T := T_M) (N := 16) hx hb hts (in_M) hown hK hP 0 rfl rfl 0 (by decide) (hts _ m_f_M_26) (fun _ h9 => h9) rfl d_M_locate_11 ?_
    refine lv_iconst (v := 2) hx hb d_M_locate_14 (by decide) ?_
    refine lv_isub hx hb d_M_locate_15 ?_
    refine k_top (nI (N - 2)) (pk_sub (a := N) (b := 2) (by omega)) ?_
    refine lv_irem hx hb d_M_locate_16 (nI_ne0 (by omega) (by omega)) ?_
    refine k_top (nI ((tn x) % (N - 2))) (pk_rem (a := tn x) (d := N - 2) (by omega) (by omega) (by omega)) ?_
    refine lv_iload_n hx hb d_M_locate_17 rfl (lv_at hl 1 rfl) ?_
    refine lv_aload_n hx hb d_M_locate_18 rfl (lv_at hl 0 rfl) ?_
    refine va_get (D := D) (ci := 4) (v := .int (nI N)) (C := R_M) (T := T_M) (N := 16) hx hb hts (in_M) hown hK hP 0 rfl rfl 0 (by decide) (hts _ m_f_M_26) (fun _ h9 => h9) rfl d_M_locate_19 ?_
    refine lv_iconst (v := 2) hx hb d_M_locate_22 (by decide) ?_
    refine lv_isub hx hb d_M_locate_23 ?_
    refine k_top (nI (N - 2)) (pk_sub (a := N) (b := 2) (by omega)) ?_
    refine lv_idiv hx hb d_M_locate_24 (nI_ne0 (by omega) (by omega)) ?_
    refine k_top (nI ((tn x) / (N - 2))) (pk_div (a := tn x) (d := N - 2) (by omega) (by omega) (by omega)) ?_
    refine k_roi (va_runV (C := R_M) (As := [.int (nI ((tn x) % (N - 2))), .int (nI ((tn x) / (N - 2)))]) (rest := []) ⟨hx, hb, hml, hown, hts⟩ (c_Model_diskOf l D cA q N S z (by omega) (by omega) (by omega) (by omega) ((tn x) % (N - 2)) ((tn x) / (N - 2)) (by omega) (by omega)) (k_cwV 2 hts m_code_M_diskOf m_ini_M m_l_M_39 m_inst_M_diskOf m_sel_M_diskOf h_M_diskOf rfl rfl ⟨Nat.le_of_ble_eq_true rfl, Nat.le_of_ble_eq_true rfl⟩) (k_pR hP hK [0, 1, 2, 3, 4] rfl 0 4 rfl rfl) rfl rfl hl.1 rfl (lv_room (Nat.le_of_ble_eq_true rfl)) d_M_locate_25 ⟨Nat.zero_le _, Nat.zero_le _⟩) ?_
    have f1 : rdk N ((tn x) % (N - 2)) ((tn x) / (N - 2)) < N := rdk_lt (by omega)
    refine lv_goto hx hb d_M_locate_28 rfl ?_
    refine k_top (loc N S x) (by unfold loc; first | rw [if_pos h5, rdk_c (by omega)] | rw [if_neg h5]) ?_
    exact W.iret (v := loc N S x) hx hb hr (fun t ht hW => ⟨rfl, ht⟩) (fun _ h => by cases h) d_M_locate_32
set_option maxHeartbeats 4000000 in
set_option maxRecDepth 100000 in
theorem c_Model_position (l : Launch) (D : va_G) (cA : ClassId) (q : Nat → Nat) (N S : Nat) (z : RS) (gN4 : 4 ≤ N) (gN : N ≤ 10) (gS1 : 1 ≤ S) (gS : S ≤ 16) (x : Int32) : Met l y_M_position w_M_position ({ frames := 0, cells := 0, slots := 0, locals := 0 }) (va_Pc [.ref (q 0), .int x] (k_R D [(cA, .int)] (wM cA q N S z))) (k_Ro (some (.int (rPo N x z)))) 0 0 (fun _ => False) := by
  refine Met.ofW (cc := b_M_position) (maxL := 2) (ret := (some .int)) (by decide) rfl ?_
  intro p e s m args below meth c s₁ B hml hv
  obtain ⟨rfl, hP, hK⟩ := hv
  have hx := B.exec
  have hb := B.bytes
  have hr := B.returns
  have hts0 := atoms_spec (ws := w_M_position) B.pre
  have hts : ∀ w ∈ lw_g, w.before _ s = true := fun w h => hts0 w (List.mem_cons_of_mem _ h)
  have hown : s.vm.findClass R_M = some m.cls := findClass_of_methodNamed B.named
  have hlocks := B.notSynchronized
  have hl := lv_entry ([.ref (q 0), .int x]) (n := 2) (Nat.le_of_ble_eq_true rfl)
  rw [lg_entry_eq]
  generalize (lg_sl ([.ref (q 0), .int x]) ++ List.replicate (2 - (lg_sl ([.ref (q 0), .int x])).length) Slot.unset).toArray = ls at hl ⊢
  have hl : lv_has ls 2 [(0, .ref (q 0)), (1, .int x)] := hl
  refine lv_iload_n hx hb d_M_position_0 rfl (lv_at hl 1 rfl) ?_
  refine lv_if_lt (tgt := 12) hx hb d_M_position_1 rfl (fun g1 => ?_) (fun g1 => ?_)
  · have h1 := Int32.not_le.mpr g1
    have hin : ¬ (¬ x < 0 ∧ ¬ nI N ≤ x) := fun w => w.1 g1
    refine lv_iconst (v := (-1)) hx hb d_M_position_12 (by decide) ?_
    refine lv_goto hx hb d_M_position_13 rfl ?_
    refine k_top (rPo N x z) (by first | ((try unfold rPo); (repeat (first | rw [if_pos g1] | rw [if_neg g1] | rw [if_pos h1] | rw [if_neg h1] | rw [if_pos hin] | rw [if_neg hin] | rw [rRV_n2] | rw [rRA_n] | rw [if_pos (rfl : (0 : Int32) = 0)] | rw [if_neg (show ¬ (-2 : Int32) = 0 by decide)] | rw [if_neg (show ¬ (-3 : Int32) = 0 by decide)] | rw [if_neg (show ¬ true = false by decide)] | rw [if_pos (show false = false from rfl)] | dsimp only)); first | done | rfl) | rfl) ?_
    exact W.iret (v := rPo N x z) hx hb hr (fun t ht hW => ⟨rfl, ht⟩) (fun _ h => by cases h) d_M_position_36
  · have h1 := Int32.not_lt.mp g1
    refine lv_iload_n hx hb d_M_position_4 rfl (lv_at hl 1 rfl) ?_
    refine lv_aload_n hx hb d_M_position_5 rfl (lv_at hl 0 rfl) ?_
    refine va_get (D := D) (ci := 4) (v := .int (nI N)) (C := R_M) (T := T_M) (N := 16) hx hb hts (in_M) hown hK hP 0 rfl rfl 0 (by decide) (hts _ m_f_M_26) (fun _ h9 => h9) rfl d_M_position_6 ?_
    refine lv_icmp_lt (tgt := 16) hx hb d_M_position_9 rfl (fun g9 => ?_) (fun g9 => ?_)
    · have h9 := Int32.not_le.mpr g9
      have hin : ¬ x < 0 ∧ ¬ nI N ≤ x := ⟨g1, h9⟩
      obtain ⟨hx1, hx2⟩ := tn_of (by omega) hin
      have hl : lv_has ls 2 [(0, .ref (q 0)), (1, .int (nI (tn x)))] := by rw [← hx2]; exact hl
      refine lv_aload_n hx hb d_M_position_16 rfl (lv_at hl 0 rfl) ?_
      refine va_get (D := D) (ci := 4) (v := .ref (q 2)) (C := R_M) (T := T_M) (N := 16) hx hb hts (in_M) hown hK hP 0 rfl rfl 10 (by decide) (hts _ m_f_M_13) (fun _ h9 => h9) rfl d_M_position_17 ?_
      refine lv_iload_n hx hb d_M_position_20 rfl (lv_at hl 1 rfl) ?_
      refine va_iald (n := 10) (f := rP z) hx hb hK hP 2 0 rfl rfl (vp_in_nI (by omega) (by omega)) d_M_position_21 ?_
      refine k_top ((rP z) (tn x)) (by rw [show (nI (tn x) : Int32).toNatClampNeg = tn x from nI_clamp (n := tn x) (by omega)]) ?_
      refine lv_if_ge (tgt := 30) hx hb d_M_position_22 rfl (fun g22 => ?_) (fun g22 => ?_)
      · have h22 := Int32.not_lt.mpr g22
        refine lv_aload_n hx hb d_M_position_30 rfl (lv_at hl 0 rfl) ?_
        refine va_get (D := D) (ci := 4) (v := .ref (q 2)) (C := R_M) (T := T_M) (N := 16) hx hb hts (in_M) hown hK hP 0 rfl rfl 10 (by decide) (hts _ m_f_M_13) (fun _ h9 => h9) rfl d_M_position_31 ?_
        refine lv_iload_n hx hb d_M_position_34 rfl (lv_at hl 1 rfl) ?_
        refine va_iald (n := 10) (f := rP z) hx hb hK hP 2 0 rfl rfl (vp_in_nI (by omega) (by omega)) d_M_position_35 ?_
        refine k_top ((rP z) (tn x)) (by rw [show (nI (tn x) : Int32).toNatClampNeg = tn x from nI_clamp (n := tn x) (by omega)]) ?_
        refine k_top (rPo N x z) (by first | ((try unfold rPo); (repeat (first | rw [if_pos g1] | rw [if_neg g1] | rw [if_pos h1] | rw [if_neg h1] | rw [if_pos g9] | rw [if_neg g9] | rw [if_pos h9] | rw [if_neg h9] | rw [if_pos hin] | rw [if_neg hin] | rw [if_pos g22] | rw [if_neg g22] | rw [if_pos h22] | rw [if_neg h22] | rw [rRV_n2] | rw [rRA_n] | rw [if_pos (rfl : (0 : Int32) = 0)] | rw [if_neg (show ¬ (-2 : Int32) = 0 by decide)] | rw [if_neg (show ¬ (-3 : Int32) = 0 by decide)] | rw [if_neg (show ¬ true = false by decide)] | rw [if_pos (show false = false from rfl)] | dsimp only)); first | done | rfl) | rfl) ?_
        exact W.iret (v := rPo N x z) hx hb hr (fun t ht hW => ⟨rfl, ht⟩) (fun _ h => by cases h) d_M_position_36
      · have h22 := Int32.not_le.mp g22
        refine lv_bipush (v := (-9)) hx hb d_M_position_25 (by decide) ?_
        refine lv_goto hx hb d_M_position_27 rfl ?_
        refine k_top (rPo N x z) (by first | ((try unfold rPo); (repeat (first | rw [if_pos g1] | rw [if_neg g1] | rw [if_pos h1] | rw [if_neg h1] | rw [if_pos g9] | rw [if_neg g9] | rw [if_pos h9] | rw [if_neg h9] | rw [if_pos hin] | rw [if_neg hin] | rw [if_pos g22] | rw [if_neg g22] | rw [if_pos h22] | rw [if_neg h22] | rw [rRV_n2] | rw [rRA_n] | rw [if_pos (rfl : (0 : Int32) = 0)] | rw [if_neg (show ¬ (-2 : Int32) = 0 by decide)] | rw [if_neg (show ¬ (-3 : Int32) = 0 by decide)] | rw [if_neg (show ¬ true = false by decide)] | rw [if_pos (show false = false from rfl)] | dsimp only)); first | done | rfl) | rfl) ?_
        exact W.iret (v := rPo N x z) hx hb hr (fun t ht hW => ⟨rfl, ht⟩) (fun _ h => by cases h) d_M_position_36
    · have h9 := Int32.not_lt.mp g9
      have hin : ¬ (¬ x < 0 ∧ ¬ nI N ≤ x) := fun w => w.2 h9
      refine lv_iconst (v := (-1)) hx hb d_M_position_12 (by decide) ?_
      refine lv_goto hx hb d_M_position_13 rfl ?_
      refine k_top (rPo N x z) (by first | ((try unfold rPo); (repeat (first | rw [if_pos g1] | rw [if_neg g1] | rw [if_pos h1] | rw [if_neg h1] | rw [if_pos g9] | rw [if_neg g9] | rw [if_pos h9] | rw [if_neg h9] | rw [if_pos hin] | rw [if_neg hin] | rw [rRV_n2] | rw [rRA_n] | rw [if_pos (rfl : (0 : Int32) = 0)] | rw [if_neg (show ¬ (-2 : Int32) = 0 by decide)] | rw [if_neg (show ¬ (-3 : Int32) = 0 by decide)] | rw [if_neg (show ¬ true = false by decide)] | rw [if_pos (show false = false from rfl)] | dsimp only)); first | done | rfl) | rfl) ?_
      exact W.iret (v := rPo N x z) hx hb hr (fun t ht hW => ⟨rfl, ht⟩) (fun _ h => by cases h) d_M_position_36
set_option maxHeartbeats 4000000 in
set_option maxRecDepth 100000 in
theorem c_Model_mode (l : Launch) (D : va_G) (cA : ClassId) (q : Nat → Nat) (N S : Nat) (z : RS) (gN4 : 4 ≤ N) (gN : N ≤ 10) (gS1 : 1 ≤ S) (gS : S ≤ 16) : Met l y_M_mode w_M_mode ({ frames := 1, cells := 0, slots := 0, locals := 22 }) (va_Pc [.ref (q 0)] (k_R D [(cA, .int)] (wM cA q N S z))) (k_Ro (some (.int (rMo N S z)))) 0 0 (fun _ => False) := by
  refine Met.ofW (cc := b_M_mode) (maxL := 1) (ret := (some .int)) (by decide) rfl ?_
  intro p e s m args below meth c s₁ B hml hv
  obtain ⟨rfl, hP, hK⟩ := hv
  have hx := B.exec
  have hb := B.bytes
  have hr := B.returns
  have hts0 := atoms_spec (ws := w_M_mode) B.pre
  have hts : ∀ w ∈ lw_g, w.before _ s = true := fun w h => hts0 w (List.mem_cons_of_mem _ h)
  have hown : s.vm.findClass R_M = some m.cls := findClass_of_methodNamed B.named
  have hlocks := B.notSynchronized
  have hl := lv_entry ([.ref (q 0)]) (n := 1) (Nat.le_of_ble_eq_true rfl)
  rw [lg_entry_eq]
  generalize (lg_sl ([.ref (q 0)]) ++ List.replicate (1 - (lg_sl ([.ref (q 0)])).length) Slot.unset).toArray = ls at hl ⊢
  have hl : lv_has ls 1 [(0, .ref (q 0))] := hl
  refine lv_aload_n hx hb d_M_mode_0 rfl (lv_at hl 0 rfl) ?_
  refine va_get (D := D) (ci := 4) (v := .int (rDn z)) (C := R_M) (T := T_M) (N := 16) hx hb hts (in_M) hown hK hP 0 rfl rfl 3 (by decide) (hts _ m_f_M_73) (fun _ h9 => h9) rfl d_M_mode_1 ?_
  refine lv_if_eq (tgt := 11) hx hb d_M_mode_4 rfl (fun g4 => ?_) (fun g4 => ?_)
  · refine lv_iconst (v := 0) hx hb d_M_mode_11 (by decide) ?_
    refine lv_aload_n hx hb d_M_mode_12 rfl (lv_at hl 0 rfl) ?_
    refine k_roi (va_runV (C := R_M) (As := []) (rest := [.int 0]) ⟨hx, hb, hml, hown, hts⟩ (c_Model_broken l D cA q N S z (by omega) (by omega) (by omega) (by omega)) (k_cwV 0 hts m_code_M_broken m_ini_M m_l_M_102 m_inst_M_broken m_sel_M_broken h_M_broken rfl rfl ⟨Nat.le_of_ble_eq_true rfl, Nat.le_of_ble_eq_true rfl⟩) (k_pR hP hK [0, 1, 2, 3, 4] rfl 0 4 rfl rfl) rfl rfl hl.1 rfl (lv_room (Nat.le_of_ble_eq_true rfl)) d_M_mode_13 ⟨Nat.zero_le _, Nat.zero_le _⟩) ?_
    refine lv_if_eq (tgt := 23) hx hb d_M_mode_16 rfl (fun g16 => ?_) (fun g16 => ?_)
    · have h16 := of_decide_eq_false (bi_z.mp g16)
      refine lv_iconst (v := 0) hx hb d_M_mode_23 (by decide) ?_
      refine lv_iadd hx hb d_M_mode_24 ?_
      refine lv_aload_n hx hb d_M_mode_25 rfl (lv_at hl 0 rfl) ?_
      refine va_get (D := D) (ci := 4) (v := .int (rAr z)) (C := R_M) (T := T_M) (N := 16) hx hb hts (in_M) hown hK hP 0 rfl rfl 4 (by decide) (hts _ m_f_M_66) (fun _ h9 => h9) rfl d_M_mode_26 ?_
      refine lv_if_eq (tgt := 36) hx hb d_M_mode_29 rfl (fun g29 => ?_) (fun g29 => ?_)
      · refine lv_iconst (v := 0) hx hb d_M_mode_36 (by decide) ?_
        refine lv_iadd hx hb d_M_mode_37 ?_
        refine k_top (rMo N S z) (by first | ((try unfold rMo); (repeat (first | rw [if_pos g4] | rw [if_neg g4] | rw [if_pos g16] | rw [if_neg g16] | rw [if_pos h16] | rw [if_neg h16] | rw [if_pos g29] | rw [if_neg g29] | rw [rRV_n2] | rw [rRA_n] | rw [if_pos (rfl : (0 : Int32) = 0)] | rw [if_neg (show ¬ (-2 : Int32) = 0 by decide)] | rw [if_neg (show ¬ (-3 : Int32) = 0 by decide)] | rw [if_neg (show ¬ true = false by decide)] | rw [if_pos (show false = false from rfl)] | dsimp only)); first | done | rfl) | rfl) ?_
        exact W.iret (v := rMo N S z) hx hb hr (fun t ht hW => ⟨rfl, ht⟩) (fun _ h => by cases h) d_M_mode_38
      · refine lv_iconst (v := 4) hx hb d_M_mode_32 (by decide) ?_
        refine lv_goto hx hb d_M_mode_33 rfl ?_
        refine lv_iadd hx hb d_M_mode_37 ?_
        refine k_top (rMo N S z) (by first | ((try unfold rMo); (repeat (first | rw [if_pos g4] | rw [if_neg g4] | rw [if_pos g16] | rw [if_neg g16] | rw [if_pos h16] | rw [if_neg h16] | rw [if_pos g29] | rw [if_neg g29] | rw [rRV_n2] | rw [rRA_n] | rw [if_pos (rfl : (0 : Int32) = 0)] | rw [if_neg (show ¬ (-2 : Int32) = 0 by decide)] | rw [if_neg (show ¬ (-3 : Int32) = 0 by decide)] | rw [if_neg (show ¬ true = false by decide)] | rw [if_pos (show false = false from rfl)] | dsimp only)); first | done | rfl) | rfl) ?_
        exact W.iret (v := rMo N S z) hx hb hr (fun t ht hW => ⟨rfl, ht⟩) (fun _ h => by cases h) d_M_mode_38
    · have h16 := of_decide_eq_true (bi_nz.mp g16)
      refine lv_iconst (v := 2) hx hb d_M_mode_19 (by decide) ?_
      refine lv_goto hx hb d_M_mode_20 rfl ?_
      refine lv_iadd hx hb d_M_mode_24 ?_
      refine lv_aload_n hx hb d_M_mode_25 rfl (lv_at hl 0 rfl) ?_
      refine va_get (D := D) (ci := 4) (v := .int (rAr z)) (C := R_M) (T := T_M) (N := 16) hx hb hts (in_M) hown hK hP 0 rfl rfl 4 (by decide) (hts _ m_f_M_66) (fun _ h9 => h9) rfl d_M_mode_26 ?_
      refine lv_if_eq (tgt := 36) hx hb d_M_mode_29 rfl (fun g29 => ?_) (fun g29 => ?_)
      · refine lv_iconst (v := 0) hx hb d_M_mode_36 (by decide) ?_
        refine lv_iadd hx hb d_M_mode_37 ?_
        refine k_top (rMo N S z) (by first | ((try unfold rMo); (repeat (first | rw [if_pos g4] | rw [if_neg g4] | rw [if_pos g16] | rw [if_neg g16] | rw [if_pos h16] | rw [if_neg h16] | rw [if_pos g29] | rw [if_neg g29] | rw [rRV_n2] | rw [rRA_n] | rw [if_pos (rfl : (0 : Int32) = 0)] | rw [if_neg (show ¬ (-2 : Int32) = 0 by decide)] | rw [if_neg (show ¬ (-3 : Int32) = 0 by decide)] | rw [if_neg (show ¬ true = false by decide)] | rw [if_pos (show false = false from rfl)] | dsimp only)); first | done | rfl) | rfl) ?_
        exact W.iret (v := rMo N S z) hx hb hr (fun t ht hW => ⟨rfl, ht⟩) (fun _ h => by cases h) d_M_mode_38
      · refine lv_iconst (v := 4) hx hb d_M_mode_32 (by decide) ?_
        refine lv_goto hx hb d_M_mode_33 rfl ?_
        refine lv_iadd hx hb d_M_mode_37 ?_
        refine k_top (rMo N S z) (by first | ((try unfold rMo); (repeat (first | rw [if_pos g4] | rw [if_neg g4] | rw [if_pos g16] | rw [if_neg g16] | rw [if_pos h16] | rw [if_neg h16] | rw [if_pos g29] | rw [if_neg g29] | rw [rRV_n2] | rw [rRA_n] | rw [if_pos (rfl : (0 : Int32) = 0)] | rw [if_neg (show ¬ (-2 : Int32) = 0 by decide)] | rw [if_neg (show ¬ (-3 : Int32) = 0 by decide)] | rw [if_neg (show ¬ true = false by decide)] | rw [if_pos (show false = false from rfl)] | dsimp only)); first | done | rfl) | rfl) ?_
        exact W.iret (v := rMo N S z) hx hb hr (fun t ht hW => ⟨rfl, ht⟩) (fun _ h => by cases h) d_M_mode_38
  · refine lv_iconst (v := 1) hx hb d_M_mode_7 (by decide) ?_
    refine lv_goto hx hb d_M_mode_8 rfl ?_
    refine lv_aload_n hx hb d_M_mode_12 rfl (lv_at hl 0 rfl) ?_
    refine k_roi (va_runV (C := R_M) (As := []) (rest := [.int 1]) ⟨hx, hb, hml, hown, hts⟩ (c_Model_broken l D cA q N S z (by omega) (by omega) (by omega) (by omega)) (k_cwV 0 hts m_code_M_broken m_ini_M m_l_M_102 m_inst_M_broken m_sel_M_broken h_M_broken rfl rfl ⟨Nat.le_of_ble_eq_true rfl, Nat.le_of_ble_eq_true rfl⟩) (k_pR hP hK [0, 1, 2, 3, 4] rfl 0 4 rfl rfl) rfl rfl hl.1 rfl (lv_room (Nat.le_of_ble_eq_true rfl)) d_M_mode_13 ⟨Nat.zero_le _, Nat.zero_le _⟩) ?_
    refine lv_if_eq (tgt := 23) hx hb d_M_mode_16 rfl (fun g16 => ?_) (fun g16 => ?_)
    · have h16 := of_decide_eq_false (bi_z.mp g16)
      refine lv_iconst (v := 0) hx hb d_M_mode_23 (by decide) ?_
      refine lv_iadd hx hb d_M_mode_24 ?_
      refine lv_aload_n hx hb d_M_mode_25 rfl (lv_at hl 0 rfl) ?_
      refine va_get (D := D) (ci := 4) (v := .int (rAr z)) (C := R_M) (T := T_M) (N := 16) hx hb hts (in_M) hown hK hP 0 rfl rfl 4 (by decide) (hts _ m_f_M_66) (fun _ h9 => h9) rfl d_M_mode_26 ?_
      refine lv_if_eq (tgt := 36) hx hb d_M_mode_29 rfl (fun g29 => ?_) (fun g29 => ?_)
      · refine lv_iconst (v := 0) hx hb d_M_mode_36 (by decide) ?_
        refine lv_iadd hx hb d_M_mode_37 ?_
        refine k_top (rMo N S z) (by first | ((try unfold rMo); (repeat (first | rw [if_pos g4] | rw [if_neg g4] | rw [if_pos g16] | rw [if_neg g16] | rw [if_pos h16] | rw [if_neg h16] | rw [if_pos g29] | rw [if_neg g29] | rw [rRV_n2] | rw [rRA_n] | rw [if_pos (rfl : (0 : Int32) = 0)] | rw [if_neg (show ¬ (-2 : Int32) = 0 by decide)] | rw [if_neg (show ¬ (-3 : Int32) = 0 by decide)] | rw [if_neg (show ¬ true = false by decide)] | rw [if_pos (show false = false from rfl)] | dsimp only)); first | done | rfl) | rfl) ?_
        exact W.iret (v := rMo N S z) hx hb hr (fun t ht hW => ⟨rfl, ht⟩) (fun _ h => by cases h) d_M_mode_38
      · refine lv_iconst (v := 4) hx hb d_M_mode_32 (by decide) ?_
        refine lv_goto hx hb d_M_mode_33 rfl ?_
        refine lv_iadd hx hb d_M_mode_37 ?_
        refine k_top (rMo N S z) (by first | ((try unfold rMo); (repeat (first | rw [if_pos g4] | rw [if_neg g4] | rw [if_pos g16] | rw [if_neg g16] | rw [if_pos h16] | rw [if_neg h16] | rw [if_pos g29] | rw [if_neg g29] | rw [rRV_n2] | rw [rRA_n] | rw [if_pos (rfl : (0 : Int32) = 0)] | rw [if_neg (show ¬ (-2 : Int32) = 0 by decide)] | rw [if_neg (show ¬ (-3 : Int32) = 0 by decide)] | rw [if_neg (show ¬ true = false by decide)] | rw [if_pos (show false = false from rfl)] | dsimp only)); first | done | rfl) | rfl) ?_
        exact W.iret (v := rMo N S z) hx hb hr (fun t ht hW => ⟨rfl, ht⟩) (fun _ h => by cases h) d_M_mode_38
    · have h16 := of_decide_eq_true (bi_nz.mp g16)
      refine lv_iconst (v := 2) hx hb d_M_mode_19 (by decide) ?_
      refine lv_goto hx hb d_M_mode_20 rfl ?_
      refine lv_iadd hx hb d_M_mode_24 ?_
      refine lv_aload_n hx hb d_M_mode_25 rfl (lv_at hl 0 rfl) ?_
      refine va_get (D := D) (ci := 4) (v := .int (rAr z)) (C := R_M) (T := T_M) (N := 16) hx hb hts (in_M) hown hK hP 0 rfl rfl 4 (by decide) (hts _ m_f_M_66) (fun _ h9 => h9) rfl d_M_mode_26 ?_
      refine lv_if_eq (tgt := 36) hx hb d_M_mode_29 rfl (fun g29 => ?_) (fun g29 => ?_)
      · refine lv_iconst (v := 0) hx hb d_M_mode_36 (by decide) ?_
        refine lv_iadd hx hb d_M_mode_37 ?_
        refine k_top (rMo N S z) (by first | ((try unfold rMo); (repeat (first | rw [if_pos g4] | rw [if_neg g4] | rw [if_pos g16] | rw [if_neg g16] | rw [if_pos h16] | rw [if_neg h16] | rw [if_pos g29] | rw [if_neg g29] | rw [rRV_n2] | rw [rRA_n] | rw [if_pos (rfl : (0 : Int32) = 0)] | rw [if_neg (show ¬ (-2 : Int32) = 0 by decide)] | rw [if_neg (show ¬ (-3 : Int32) = 0 by decide)] | rw [if_neg (show ¬ true = false by decide)] | rw [if_pos (show false = false from rfl)] | dsimp only)); first | done | rfl) | rfl) ?_
        exact W.iret (v := rMo N S z) hx hb hr (fun t ht hW => ⟨rfl, ht⟩) (fun _ h => by cases h) d_M_mode_38
      · refine lv_iconst (v := 4) hx hb d_M_mode_32 (by decide) ?_
        refine lv_goto hx hb d_M_mode_33 rfl ?_
        refine lv_iadd hx hb d_M_mode_37 ?_
        refine k_top (rMo N S z) (by first | ((try unfold rMo); (repeat (first | rw [if_pos g4] | rw [if_neg g4] | rw [if_pos g16] | rw [if_neg g16] | rw [if_pos h16] | rw [if_neg h16] | rw [if_pos g29] | rw [if_neg g29] | rw [rRV_n2] | rw [rRA_n] | rw [if_pos (rfl : (0 : Int32) = 0)] | rw [if_neg (show ¬ (-2 : Int32) = 0 by decide)] | rw [if_neg (show ¬ (-3 : Int32) = 0 by decide)] | rw [if_neg (show ¬ true = false by decide)] | rw [if_pos (show false = false from rfl)] | dsimp only)); first | done | rfl) | rfl) ?_
        exact W.iret (v := rMo N S z) hx hb hr (fun t ht hW => ⟨rfl, ht⟩) (fun _ h => by cases h) d_M_mode_38
set_option maxHeartbeats 4000000 in
set_option maxRecDepth 100000 in
theorem c_Model_logged (l : Launch) (D : va_G) (cA : ClassId) (q : Nat → Nat) (N S : Nat) (z : RS) (gN4 : 4 ≤ N) (gN : N ≤ 10) (gS1 : 1 ≤ S) (gS : S ≤ 16) : Met l y_M_logged w_M_logged ({ frames := 0, cells := 0, slots := 0, locals := 0 }) (va_Pc [.ref (q 0)] (k_R D [(cA, .int)] (wM cA q N S z))) (k_Ro (some (.int (rLs z)))) 0 0 (fun _ => False) := by
  refine Met.ofW (cc := b_M_logged) (maxL := 1) (ret := (some .int)) (by decide) rfl ?_
  intro p e s m args below meth c s₁ B hml hv
  obtain ⟨rfl, hP, hK⟩ := hv
  have hx := B.exec
  have hb := B.bytes
  have hr := B.returns
  have hts0 := atoms_spec (ws := w_M_logged) B.pre
  have hts : ∀ w ∈ lw_g, w.before _ s = true := fun w h => hts0 w (List.mem_cons_of_mem _ h)
  have hown : s.vm.findClass R_M = some m.cls := findClass_of_methodNamed B.named
  have hlocks := B.notSynchronized
  have hl := lv_entry ([.ref (q 0)]) (n := 1) (Nat.le_of_ble_eq_true rfl)
  rw [lg_entry_eq]
  generalize (lg_sl ([.ref (q 0)]) ++ List.replicate (1 - (lg_sl ([.ref (q 0)])).length) Slot.unset).toArray = ls at hl ⊢
  have hl : lv_has ls 1 [(0, .ref (q 0))] := hl
  refine lv_aload_n hx hb d_M_logged_0 rfl (lv_at hl 0 rfl) ?_
  refine va_get (D := D) (ci := 4) (v := .int (rLs z)) (C := R_M) (T := T_M) (N := 16) hx hb hts (in_M) hown hK hP 0 rfl rfl 13 (by decide) (hts _ m_f_M_22) (fun _ h9 => h9) rfl d_M_logged_1 ?_
  exact W.iret (v := rLs z) hx hb hr (fun t ht hW => ⟨rfl, ht⟩) (fun _ h => by cases h) d_M_logged_4
set_option maxHeartbeats 4000000 in
set_option maxRecDepth 100000 in
theorem c_Model_spares (l : Launch) (D : va_G) (cA : ClassId) (q : Nat → Nat) (N S : Nat) (z : RS) (gN4 : 4 ≤ N) (gN : N ≤ 10) (gS1 : 1 ≤ S) (gS : S ≤ 16) : Met l y_M_spares w_M_spares ({ frames := 0, cells := 0, slots := 0, locals := 0 }) (va_Pc [.ref (q 0)] (k_R D [(cA, .int)] (wM cA q N S z))) (k_Ro (some (.int (rLe z)))) 0 0 (fun _ => False) := by
  refine Met.ofW (cc := b_M_spares) (maxL := 1) (ret := (some .int)) (by decide) rfl ?_
  intro p e s m args below meth c s₁ B hml hv
  obtain ⟨rfl, hP, hK⟩ := hv
  have hx := B.exec
  have hb := B.bytes
  have hr := B.returns
  have hts0 := atoms_spec (ws := w_M_spares) B.pre
  have hts : ∀ w ∈ lw_g, w.before _ s = true := fun w h => hts0 w (List.mem_cons_of_mem _ h)
  have hown : s.vm.findClass R_M = some m.cls := findClass_of_methodNamed B.named
  have hlocks := B.notSynchronized
  have hl := lv_entry ([.ref (q 0)]) (n := 1) (Nat.le_of_ble_eq_true rfl)
  rw [lg_entry_eq]
  generalize (lg_sl ([.ref (q 0)]) ++ List.replicate (1 - (lg_sl ([.ref (q 0)])).length) Slot.unset).toArray = ls at hl ⊢
  have hl : lv_has ls 1 [(0, .ref (q 0))] := hl
  refine lv_aload_n hx hb d_M_spares_0 rfl (lv_at hl 0 rfl) ?_
  refine va_get (D := D) (ci := 4) (v := .int (rLe z)) (C := R_M) (T := T_M) (N := 16) hx hb hts (in_M) hown hK hP 0 rfl rfl 2 (by decide) (hts _ m_f_M_32) (fun _ h9 => h9) rfl d_M_spares_1 ?_
  exact W.iret (v := rLe z) hx hb hr (fun t ht hW => ⟨rfl, ht⟩) (fun _ h => by cases h) d_M_spares_4
set_option maxHeartbeats 4000000 in
set_option maxRecDepth 100000 in
theorem c_Model_reads (l : Launch) (D : va_G) (cA : ClassId) (q : Nat → Nat) (N S : Nat) (z : RS) (gN4 : 4 ≤ N) (gN : N ≤ 10) (gS1 : 1 ≤ S) (gS : S ≤ 16) : Met l y_M_reads w_M_reads ({ frames := 0, cells := 0, slots := 0, locals := 0 }) (va_Pc [.ref (q 0)] (k_R D [(cA, .int)] (wM cA q N S z))) (k_Ro (some (.int (rRc z)))) 0 0 (fun _ => False) := by
  refine Met.ofW (cc := b_M_reads) (maxL := 1) (ret := (some .int)) (by decide) rfl ?_
  intro p e s m args below meth c s₁ B hml hv
  obtain ⟨rfl, hP, hK⟩ := hv
  have hx := B.exec
  have hb := B.bytes
  have hr := B.returns
  have hts0 := atoms_spec (ws := w_M_reads) B.pre
  have hts : ∀ w ∈ lw_g, w.before _ s = true := fun w h => hts0 w (List.mem_cons_of_mem _ h)
  have hown : s.vm.findClass R_M = some m.cls := findClass_of_methodNamed B.named
  have hlocks := B.notSynchronized
  have hl := lv_entry ([.ref (q 0)]) (n := 1) (Nat.le_of_ble_eq_true rfl)
  rw [lg_entry_eq]
  generalize (lg_sl ([.ref (q 0)]) ++ List.replicate (1 - (lg_sl ([.ref (q 0)])).length) Slot.unset).toArray = ls at hl ⊢
  have hl : lv_has ls 1 [(0, .ref (q 0))] := hl
  refine lv_aload_n hx hb d_M_reads_0 rfl (lv_at hl 0 rfl) ?_
  refine va_get (D := D) (ci := 4) (v := .int (rRc z)) (C := R_M) (T := T_M) (N := 16) hx hb hts (in_M) hown hK hP 0 rfl rfl 7 (by decide) (hts _ m_f_M_109) (fun _ h9 => h9) rfl d_M_reads_1 ?_
  exact W.iret (v := rRc z) hx hb hr (fun t ht hW => ⟨rfl, ht⟩) (fun _ h => by cases h) d_M_reads_4
set_option maxHeartbeats 4000000 in
set_option maxRecDepth 100000 in
theorem c_Model_writes (l : Launch) (D : va_G) (cA : ClassId) (q : Nat → Nat) (N S : Nat) (z : RS) (gN4 : 4 ≤ N) (gN : N ≤ 10) (gS1 : 1 ≤ S) (gS : S ≤ 16) : Met l y_M_writes w_M_writes ({ frames := 0, cells := 0, slots := 0, locals := 0 }) (va_Pc [.ref (q 0)] (k_R D [(cA, .int)] (wM cA q N S z))) (k_Ro (some (.int (rWc z)))) 0 0 (fun _ => False) := by
  refine Met.ofW (cc := b_M_writes) (maxL := 1) (ret := (some .int)) (by decide) rfl ?_
  intro p e s m args below meth c s₁ B hml hv
  obtain ⟨rfl, hP, hK⟩ := hv
  have hx := B.exec
  have hb := B.bytes
  have hr := B.returns
  have hts0 := atoms_spec (ws := w_M_writes) B.pre
  have hts : ∀ w ∈ lw_g, w.before _ s = true := fun w h => hts0 w (List.mem_cons_of_mem _ h)
  have hown : s.vm.findClass R_M = some m.cls := findClass_of_methodNamed B.named
  have hlocks := B.notSynchronized
  have hl := lv_entry ([.ref (q 0)]) (n := 1) (Nat.le_of_ble_eq_true rfl)
  rw [lg_entry_eq]
  generalize (lg_sl ([.ref (q 0)]) ++ List.replicate (1 - (lg_sl ([.ref (q 0)])).length) Slot.unset).toArray = ls at hl ⊢
  have hl : lv_has ls 1 [(0, .ref (q 0))] := hl
  refine lv_aload_n hx hb d_M_writes_0 rfl (lv_at hl 0 rfl) ?_
  refine va_get (D := D) (ci := 4) (v := .int (rWc z)) (C := R_M) (T := T_M) (N := 16) hx hb hts (in_M) hown hK hP 0 rfl rfl 8 (by decide) (hts _ m_f_M_83) (fun _ h9 => h9) rfl d_M_writes_1 ?_
  exact W.iret (v := rWc z) hx hb hr (fun t ht hW => ⟨rfl, ht⟩) (fun _ h => by cases h) d_M_writes_4
