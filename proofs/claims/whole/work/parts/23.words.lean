set_option maxHeartbeats 4000000 in
set_option maxRecDepth 100000 in
theorem c_Words_doubled (l : Launch) (D : va_G) (w : Int32) : Met l y_W_doubled w_W_doubled ({ frames := 0, cells := 0, slots := 0, locals := 0 }) (va_Pc [.int w] (fun _ => True)) (k_Ro (some (.int (dbl w)))) 0 0 (fun _ => False) := by
  refine Met.ofW (cc := b_W_doubled) (maxL := 1) (ret := (some .int)) (by decide) rfl ?_
  intro p e s m args below meth c s₁ B hml hv
  obtain ⟨rfl, hTb⟩ := hv
  have hx := B.exec
  have hb := B.bytes
  have hr := B.returns
  have hts0 := atoms_spec (ws := w_W_doubled) B.pre
  have hts : ∀ w ∈ lw_g, w.before _ s = true := fun w h => hts0 w (List.mem_cons_of_mem _ h)
  have hown : s.vm.findClass R_W = some m.cls := findClass_of_methodNamed B.named
  have hlocks := B.notSynchronized
  have hl := lv_entry ([.int w]) (n := 1) (Nat.le_of_ble_eq_true rfl)
  rw [lg_entry_eq]
  generalize (lg_sl ([.int w]) ++ List.replicate (1 - (lg_sl ([.int w])).length) Slot.unset).toArray = ls at hl ⊢
  have hl : lv_has ls 1 [(0, .int w)] := hl
  refine lv_iload_n hx hb d_W_doubled_0 rfl (lv_at hl 0 rfl) ?_
  refine lv_ldc (v := 2139062143) hx hb hown (hts _ m_c_W_9) d_W_doubled_1 ?_
  refine lv_iand hx hb d_W_doubled_3 ?_
  refine lv_iconst (v := 1) hx hb d_W_doubled_4 (by decide) ?_
  refine lv_ishl hx hb d_W_doubled_5 ?_
  refine lv_iload_n hx hb d_W_doubled_6 rfl (lv_at hl 0 rfl) ?_
  refine lv_bipush (v := 7) hx hb d_W_doubled_7 (by decide) ?_
  refine lv_iushr (v := ((w : Int32).toUInt32 >>> ((7 : Int32).toUInt32 &&& Int32.toUInt32 31)).toInt32) hx hb d_W_doubled_9 rfl ?_
  refine lv_ldc (v := 16843009) hx hb hown (hts _ m_c_W_10) d_W_doubled_10 ?_
  refine lv_iand hx hb d_W_doubled_12 ?_
  refine lv_bipush (v := 29) hx hb d_W_doubled_13 (by decide) ?_
  refine lv_imul hx hb d_W_doubled_15 ?_
  refine lv_ixor hx hb d_W_doubled_16 ?_
  refine k_top (dbl w) (by first | rfl | (simp []; done) | omega) ?_
  exact W.iret (v := dbl w) hx hb hr (fun t ht hW => ⟨rfl, ht⟩) (fun _ h => by cases h) d_W_doubled_17
set_option maxHeartbeats 4000000 in
set_option maxRecDepth 100000 in
theorem c_Words_halved (l : Launch) (D : va_G) (w : Int32) : Met l y_W_halved w_W_halved ({ frames := 0, cells := 0, slots := 0, locals := 0 }) (va_Pc [.int w] (fun _ => True)) (k_Ro (some (.int (hlv w)))) 0 0 (fun _ => False) := by
  refine Met.ofW (cc := b_W_halved) (maxL := 1) (ret := (some .int)) (by decide) rfl ?_
  intro p e s m args below meth c s₁ B hml hv
  obtain ⟨rfl, hTb⟩ := hv
  have hx := B.exec
  have hb := B.bytes
  have hr := B.returns
  have hts0 := atoms_spec (ws := w_W_halved) B.pre
  have hts : ∀ w ∈ lw_g, w.before _ s = true := fun w h => hts0 w (List.mem_cons_of_mem _ h)
  have hown : s.vm.findClass R_W = some m.cls := findClass_of_methodNamed B.named
  have hlocks := B.notSynchronized
  have hl := lv_entry ([.int w]) (n := 1) (Nat.le_of_ble_eq_true rfl)
  rw [lg_entry_eq]
  generalize (lg_sl ([.int w]) ++ List.replicate (1 - (lg_sl ([.int w])).length) Slot.unset).toArray = ls at hl ⊢
  have hl : lv_has ls 1 [(0, .int w)] := hl
  refine lv_iload_n hx hb d_W_halved_0 rfl (lv_at hl 0 rfl) ?_
  refine lv_iconst (v := 1) hx hb d_W_halved_1 (by decide) ?_
  refine lv_iushr (v := ((w : Int32).toUInt32 >>> ((1 : Int32).toUInt32 &&& Int32.toUInt32 31)).toInt32) hx hb d_W_halved_2 rfl ?_
  refine lv_ldc (v := 2139062143) hx hb hown (hts _ m_c_W_9) d_W_halved_3 ?_
  refine lv_iand hx hb d_W_halved_5 ?_
  refine lv_iload_n hx hb d_W_halved_6 rfl (lv_at hl 0 rfl) ?_
  refine lv_ldc (v := 16843009) hx hb hown (hts _ m_c_W_10) d_W_halved_7 ?_
  refine lv_iand hx hb d_W_halved_9 ?_
  refine lv_sipush (v := 142) hx hb d_W_halved_10 (by decide) ?_
  refine lv_imul hx hb d_W_halved_13 ?_
  refine lv_ixor hx hb d_W_halved_14 ?_
  refine k_top (hlv w) (by first | rfl | (simp []; done) | omega) ?_
  exact W.iret (v := hlv w) hx hb hr (fun t ht hW => ⟨rfl, ht⟩) (fun _ h => by cases h) d_W_halved_15
set_option maxHeartbeats 4000000 in
set_option maxRecDepth 100000 in
theorem c_Words_timesPower (l : Launch) (D : va_G) (j : Nat) (w : Int32) (hj : j ≤ 10) : Met l y_W_timesPower w_W_timesPower ({ frames := 1, cells := 0, slots := 0, locals := 20 }) (va_Pc [.int (nI j), .int w] (fun _ => True)) (k_Ro (some (.int (dblN j w)))) 0 0 (fun _ => False) := by
  refine Met.ofW (cc := b_W_timesPower) (maxL := 4) (ret := (some .int)) (by decide) rfl ?_
  intro p e s m args below meth c s₁ B hml hv
  obtain ⟨rfl, hTb⟩ := hv
  have hx := B.exec
  have hb := B.bytes
  have hr := B.returns
  have hts0 := atoms_spec (ws := w_W_timesPower) B.pre
  have hts : ∀ w ∈ lw_g, w.before _ s = true := fun w h => hts0 w (List.mem_cons_of_mem _ h)
  have hown : s.vm.findClass R_W = some m.cls := findClass_of_methodNamed B.named
  have hlocks := B.notSynchronized
  have hl := lv_entry ([.int (nI j), .int w]) (n := 4) (Nat.le_of_ble_eq_true rfl)
  rw [lg_entry_eq]
  generalize (lg_sl ([.int (nI j), .int w]) ++ List.replicate (4 - (lg_sl ([.int (nI j), .int w])).length) Slot.unset).toArray = ls at hl ⊢
  have hl : lv_has ls 4 [(0, .int (nI j)), (1, .int w)] := hl
  refine lv_iload_n hx hb d_W_timesPower_0 rfl (lv_at hl 1 rfl) ?_
  refine lv_istore_n (lv' := [(2, .int w), (0, .int (nI j)), (1, .int w)]) hx hb d_W_timesPower_1 rfl hl (by decide) rfl (fun ls hl => ?_)
  refine lv_iconst (v := 0) hx hb d_W_timesPower_2 (by decide) ?_
  refine lv_istore_n (lv' := [(3, .int 0), (2, .int w), (0, .int (nI j)), (1, .int w)]) hx hb d_W_timesPower_3 rfl hl (by decide) rfl (fun ls hl => ?_)
  have L4 : ∀ (k : Nat) (i : Nat) (ls : Array Slot), i + k = j → lv_has ls 4 [(0, .int (nI j)), (1, .int w), (2, .int (dblN i w)), (3, .int (nI i))] → W p l e (headSpec w_W_timesPower ({ frames := 1, cells := 0, slots := 0, locals := 20 })).room s m ([.int (nI j), .int w] : List Value).toArray below meth c s.heap [] 0 0 (MQ below (k_Ro (some (.int (dblN j w)))) ([.int (nI j), .int w] : List Value).toArray s 0 0 (fun _ => False)) (F0 m 4 ls []) := by
    intro k
    induction k with
    | zero =>
      intro i ls hk hl
      obtain rfl : j = i := by omega
      refine lv_iload_n hx hb d_W_timesPower_4 rfl (lv_at hl 3 rfl) ?_
      refine lv_iload_n hx hb d_W_timesPower_5 rfl (lv_at hl 0 rfl) ?_
      refine lv_icmp_ge (tgt := 20) hx hb d_W_timesPower_6 rfl (fun g6 => ?_) (fun g6 => ?_)
      · have h6 : j ≤ j := (nI_leI (a := j) (b := j) (by omega) (by omega)).mp g6
        refine lv_iload_n hx hb d_W_timesPower_20 rfl (lv_at hl 2 rfl) ?_
        exact W.iret (v := dblN j w) hx hb hr (fun t ht hW => ⟨rfl, ht⟩) (fun _ h => by cases h) d_W_timesPower_21
      · have h6 : ¬ j ≤ j := fun z => g6 ((nI_leI (a := j) (b := j) (by omega) (by omega)).mpr z)
        exfalso; omega
    | succ k ih =>
      intro i ls hk hl
      refine lv_iload_n hx hb d_W_timesPower_4 rfl (lv_at hl 3 rfl) ?_
      refine lv_iload_n hx hb d_W_timesPower_5 rfl (lv_at hl 0 rfl) ?_
      refine lv_icmp_ge (tgt := 20) hx hb d_W_timesPower_6 rfl (fun g6 => ?_) (fun g6 => ?_)
      · have h6 : j ≤ i := (nI_leI (a := j) (b := i) (by omega) (by omega)).mp g6
        exfalso; omega
      · have h6 : ¬ j ≤ i := fun z => g6 ((nI_leI (a := j) (b := i) (by omega) (by omega)).mpr z)
        refine lv_iload_n hx hb d_W_timesPower_9 rfl (lv_at hl 2 rfl) ?_
        refine k_roi (va_runS (As := [.int (dblN i w)]) (rest := []) ⟨hx, hb, hml, hown, hts⟩ (c_Words_doubled l D (dblN i w)) (k_cwS 1 hts m_code_W_doubled m_ini_W m_l_W_11 m_stat_W_doubled h_W_doubled rfl rfl ⟨Nat.le_of_ble_eq_true rfl, Nat.le_of_ble_eq_true rfl⟩) (k_s0) rfl rfl hl.1 rfl (lv_room (Nat.le_of_ble_eq_true rfl)) d_W_timesPower_10 ⟨Nat.zero_le _, Nat.zero_le _⟩) ?_
        refine lv_istore_n (lv' := [(2, .int (dbl (dblN i w))), (0, .int (nI j)), (1, .int w), (3, .int (nI i))]) hx hb d_W_timesPower_13 rfl hl (by decide) rfl (fun ls hl => ?_)
        refine lv_iinc (k := 3) (v := nI (i + 1)) (lv' := [(3, .int (nI (i + 1))), (2, .int (dbl (dblN i w))), (0, .int (nI j)), (1, .int w)]) hx hb d_W_timesPower_14 hl rfl (nI_add i 1) (by decide) rfl (fun ls hl => ?_)
        refine lv_goto hx hb d_W_timesPower_17 rfl ?_
        have e1 : dblN (i + 1) w = dbl (dblN i w) := by first | rfl | (simp [dblN, g6, h6]; done) | omega
        exact ih (i + 1) ls (by omega) (by rw [e1]; exact lv_sub hl [2, 3, 1, 0] rfl)
  have e2 : dblN 0 w = w := by first | rfl | (simp [dblN]; done) | omega
  have e3 : nI 0 = 0 := by first | rfl | (simp [dblN]; done) | omega
  exact L4 j 0 ls (by omega) (by rw [e2, e3]; exact lv_sub hl [2, 3, 1, 0] rfl)
set_option maxHeartbeats 4000000 in
set_option maxRecDepth 100000 in
theorem c_Words_dividedByPower (l : Launch) (D : va_G) (j : Nat) (w : Int32) (hj : j ≤ 10) : Met l y_W_dividedByPower w_W_dividedByPower ({ frames := 1, cells := 0, slots := 0, locals := 20 }) (va_Pc [.int (nI j), .int w] (fun _ => True)) (k_Ro (some (.int (hlvN j w)))) 0 0 (fun _ => False) := by
  refine Met.ofW (cc := b_W_dividedByPower) (maxL := 4) (ret := (some .int)) (by decide) rfl ?_
  intro p e s m args below meth c s₁ B hml hv
  obtain ⟨rfl, hTb⟩ := hv
  have hx := B.exec
  have hb := B.bytes
  have hr := B.returns
  have hts0 := atoms_spec (ws := w_W_dividedByPower) B.pre
  have hts : ∀ w ∈ lw_g, w.before _ s = true := fun w h => hts0 w (List.mem_cons_of_mem _ h)
  have hown : s.vm.findClass R_W = some m.cls := findClass_of_methodNamed B.named
  have hlocks := B.notSynchronized
  have hl := lv_entry ([.int (nI j), .int w]) (n := 4) (Nat.le_of_ble_eq_true rfl)
  rw [lg_entry_eq]
  generalize (lg_sl ([.int (nI j), .int w]) ++ List.replicate (4 - (lg_sl ([.int (nI j), .int w])).length) Slot.unset).toArray = ls at hl ⊢
  have hl : lv_has ls 4 [(0, .int (nI j)), (1, .int w)] := hl
  refine lv_iload_n hx hb d_W_dividedByPower_0 rfl (lv_at hl 1 rfl) ?_
  refine lv_istore_n (lv' := [(2, .int w), (0, .int (nI j)), (1, .int w)]) hx hb d_W_dividedByPower_1 rfl hl (by decide) rfl (fun ls hl => ?_)
  refine lv_iconst (v := 0) hx hb d_W_dividedByPower_2 (by decide) ?_
  refine lv_istore_n (lv' := [(3, .int 0), (2, .int w), (0, .int (nI j)), (1, .int w)]) hx hb d_W_dividedByPower_3 rfl hl (by decide) rfl (fun ls hl => ?_)
  have L4 : ∀ (k : Nat) (i : Nat) (ls : Array Slot), i + k = j → lv_has ls 4 [(0, .int (nI j)), (1, .int w), (2, .int (hlvN i w)), (3, .int (nI i))] → W p l e (headSpec w_W_dividedByPower ({ frames := 1, cells := 0, slots := 0, locals := 20 })).room s m ([.int (nI j), .int w] : List Value).toArray below meth c s.heap [] 0 0 (MQ below (k_Ro (some (.int (hlvN j w)))) ([.int (nI j), .int w] : List Value).toArray s 0 0 (fun _ => False)) (F0 m 4 ls []) := by
    intro k
    induction k with
    | zero =>
      intro i ls hk hl
      obtain rfl : j = i := by omega
      refine lv_iload_n hx hb d_W_dividedByPower_4 rfl (lv_at hl 3 rfl) ?_
      refine lv_iload_n hx hb d_W_dividedByPower_5 rfl (lv_at hl 0 rfl) ?_
      refine lv_icmp_ge (tgt := 20) hx hb d_W_dividedByPower_6 rfl (fun g6 => ?_) (fun g6 => ?_)
      · have h6 : j ≤ j := (nI_leI (a := j) (b := j) (by omega) (by omega)).mp g6
        refine lv_iload_n hx hb d_W_dividedByPower_20 rfl (lv_at hl 2 rfl) ?_
        exact W.iret (v := hlvN j w) hx hb hr (fun t ht hW => ⟨rfl, ht⟩) (fun _ h => by cases h) d_W_dividedByPower_21
      · have h6 : ¬ j ≤ j := fun z => g6 ((nI_leI (a := j) (b := j) (by omega) (by omega)).mpr z)
        exfalso; omega
    | succ k ih =>
      intro i ls hk hl
      refine lv_iload_n hx hb d_W_dividedByPower_4 rfl (lv_at hl 3 rfl) ?_
      refine lv_iload_n hx hb d_W_dividedByPower_5 rfl (lv_at hl 0 rfl) ?_
      refine lv_icmp_ge (tgt := 20) hx hb d_W_dividedByPower_6 rfl (fun g6 => ?_) (fun g6 => ?_)
      · have h6 : j ≤ i := (nI_leI (a := j) (b := i) (by omega) (by omega)).mp g6
        exfalso; omega
      · have h6 : ¬ j ≤ i := fun z => g6 ((nI_leI (a := j) (b := i) (by omega) (by omega)).mpr z)
        refine lv_iload_n hx hb d_W_dividedByPower_9 rfl (lv_at hl 2 rfl) ?_
        refine k_roi (va_runS (As := [.int (hlvN i w)]) (rest := []) ⟨hx, hb, hml, hown, hts⟩ (c_Words_halved l D (hlvN i w)) (k_cwS 1 hts m_code_W_halved m_ini_W m_l_W_15 m_stat_W_halved h_W_halved rfl rfl ⟨Nat.le_of_ble_eq_true rfl, Nat.le_of_ble_eq_true rfl⟩) (k_s0) rfl rfl hl.1 rfl (lv_room (Nat.le_of_ble_eq_true rfl)) d_W_dividedByPower_10 ⟨Nat.zero_le _, Nat.zero_le _⟩) ?_
        refine lv_istore_n (lv' := [(2, .int (hlv (hlvN i w))), (0, .int (nI j)), (1, .int w), (3, .int (nI i))]) hx hb d_W_dividedByPower_13 rfl hl (by decide) rfl (fun ls hl => ?_)
        refine lv_iinc (k := 3) (v := nI (i + 1)) (lv' := [(3, .int (nI (i + 1))), (2, .int (hlv (hlvN i w))), (0, .int (nI j)), (1, .int w)]) hx hb d_W_dividedByPower_14 hl rfl (nI_add i 1) (by decide) rfl (fun ls hl => ?_)
        refine lv_goto hx hb d_W_dividedByPower_17 rfl ?_
        have e1 : hlvN (i + 1) w = hlv (hlvN i w) := by first | rfl | (simp [hlvN, g6, h6]; done) | omega
        exact ih (i + 1) ls (by omega) (by rw [e1]; exact lv_sub hl [2, 3, 1, 0] rfl)
  have e2 : hlvN 0 w = w := by first | rfl | (simp [hlvN]; done) | omega
  have e3 : nI 0 = 0 := by first | rfl | (simp [hlvN]; done) | omega
  exact L4 j 0 ls (by omega) (by rw [e2, e3]; exact lv_sub hl [2, 3, 1, 0] rfl)
set_option maxHeartbeats 4000000 in
set_option maxRecDepth 100000 in
theorem c_Words_dividedBy1PlusPower (l : Launch) (D : va_G) (x w : Int32) : Met l y_W_dividedBy1PlusPower w_W_dividedBy1PlusPower ({ frames := 1, cells := 0, slots := 0, locals := 20 }) (va_Pc [.int x, .int w] (fun U => k_Tb (fun _ => False) U U.heap)) (k_Ro (some (.int (dv1 (x &&& 7).toNatClampNeg w)))) 0 0 (fun _ => False) := by
  refine Met.ofW (cc := b_W_dividedBy1PlusPower) (maxL := 6) (ret := (some .int)) (by decide) rfl ?_
  intro p e s m args below meth c s₁ B hml hv
  obtain ⟨rfl, hTb⟩ := hv
  have hx := B.exec
  have hb := B.bytes
  have hr := B.returns
  have hts0 := atoms_spec (ws := w_W_dividedBy1PlusPower) B.pre
  have hts : ∀ w ∈ lw_g, w.before _ s = true := fun w h => hts0 w (List.mem_cons_of_mem _ h)
  have hown : s.vm.findClass R_W = some m.cls := findClass_of_methodNamed B.named
  have hlocks := B.notSynchronized
  have hl := lv_entry ([.int x, .int w]) (n := 6) (Nat.le_of_ble_eq_true rfl)
  rw [lg_entry_eq]
  generalize (lg_sl ([.int x, .int w]) ++ List.replicate (6 - (lg_sl ([.int x, .int w])).length) Slot.unset).toArray = ls at hl ⊢
  have hl : lv_has ls 6 [(0, .int x), (1, .int w)] := hl
  obtain ⟨tb, hZ, hT⟩ := hTb
  refine va_gets hx hb hZ va_S.rf hown (hts _ m_f_W_18) (fun _ h9 => h9) d_W_dividedBy1PlusPower_0 ?_
  refine lv_iload_n hx hb d_W_dividedBy1PlusPower_3 rfl (lv_at hl 0 rfl) ?_
  refine lv_bipush (v := 7) hx hb d_W_dividedBy1PlusPower_4 (by decide) ?_
  refine lv_iand hx hb d_W_dividedBy1PlusPower_6 ?_
  refine va_ti hx hb hT va_S.rf (pk_andIn x (m := 7) 3 (by decide) (by decide)) rfl d_W_dividedBy1PlusPower_7 ?_
  refine lv_istore_n (lv' := [(2, .int (tabI (x &&& 7).toNatClampNeg)), (0, .int x), (1, .int w)]) hx hb d_W_dividedBy1PlusPower_8 rfl hl (by decide) rfl (fun ls hl => ?_)
  refine lv_iload_n hx hb d_W_dividedBy1PlusPower_9 rfl (lv_at hl 2 rfl) ?_
  refine lv_istore_n (lv' := [(3, .int w), (2, .int (tabI (x &&& 7).toNatClampNeg)), (0, .int x), (1, .int w)]) hx hb d_W_dividedBy1PlusPower_10 rfl hl (by decide) rfl (fun ls hl => ?_)
  refine lv_iconst (v := 0) hx hb d_W_dividedBy1PlusPower_11 (by decide) ?_
  refine lv_istore (lv' := [(4, .int 0), (3, .int w), (2, .int (tabI (x &&& 7).toNatClampNeg)), (0, .int x), (1, .int w)]) hx hb d_W_dividedBy1PlusPower_12 hl (by decide) rfl (fun ls hl => ?_)
  refine lv_iconst (v := 0) hx hb d_W_dividedBy1PlusPower_14 (by decide) ?_
  refine lv_istore (lv' := [(5, .int 0), (4, .int 0), (3, .int w), (2, .int (tabI (x &&& 7).toNatClampNeg)), (0, .int x), (1, .int w)]) hx hb d_W_dividedBy1PlusPower_15 hl (by decide) rfl (fun ls hl => ?_)
  have L17 : ∀ (k : Nat) (i : Nat) (ls : Array Slot), i + k = 8 → lv_has ls 6 [(0, .int x), (1, .int w), (2, .int (tabI (x &&& 7).toNatClampNeg)), (3, .int (dblN i w)), (4, .int (dvR (tabI (x &&& 7).toNatClampNeg) w i)), (5, .int (nI i))] → W p l e (headSpec w_W_dividedBy1PlusPower ({ frames := 1, cells := 0, slots := 0, locals := 20 })).room s m ([.int x, .int w] : List Value).toArray below meth c s.heap [] 0 0 (MQ below (k_Ro (some (.int (dv1 (x &&& 7).toNatClampNeg w)))) ([.int x, .int w] : List Value).toArray s 0 0 (fun _ => False)) (F0 m 17 ls []) := by
    intro k
    induction k with
    | zero =>
      intro i ls hk hl
      obtain rfl : 8 = i := by omega
      refine lv_iload hx hb d_W_dividedBy1PlusPower_17 (lv_at hl 5 rfl) ?_
      refine lv_bipush (v := 8) hx hb d_W_dividedBy1PlusPower_19 (by decide) ?_
      refine lv_icmp_ge (tgt := 50) hx hb d_W_dividedBy1PlusPower_21 rfl (fun g21 => ?_) (fun g21 => ?_)
      · have h21 : 8 ≤ 8 := (nI_leI (a := 8) (b := 8) (by omega) (by omega)).mp g21
        refine lv_iload hx hb d_W_dividedBy1PlusPower_50 (lv_at hl 4 rfl) ?_
        refine k_top (dv1 (x &&& 7).toNatClampNeg w) (by first | rfl | (simp [dvR, dv1, g21, h21]; done) | omega) ?_
        exact W.iret (v := dv1 (x &&& 7).toNatClampNeg w) hx hb hr (fun t ht hW => ⟨rfl, ht⟩) (fun _ h => by cases h) d_W_dividedBy1PlusPower_52
      · have h21 : ¬ 8 ≤ 8 := fun z => g21 ((nI_leI (a := 8) (b := 8) (by omega) (by omega)).mpr z)
        exfalso; omega
    | succ k ih =>
      intro i ls hk hl
      refine lv_iload hx hb d_W_dividedBy1PlusPower_17 (lv_at hl 5 rfl) ?_
      refine lv_bipush (v := 8) hx hb d_W_dividedBy1PlusPower_19 (by decide) ?_
      refine lv_icmp_ge (tgt := 50) hx hb d_W_dividedBy1PlusPower_21 rfl (fun g21 => ?_) (fun g21 => ?_)
      · have h21 : 8 ≤ i := (nI_leI (a := 8) (b := i) (by omega) (by omega)).mp g21
        exfalso; omega
      · have h21 : ¬ 8 ≤ i := fun z => g21 ((nI_leI (a := 8) (b := i) (by omega) (by omega)).mpr z)
        refine lv_iload_n hx hb d_W_dividedBy1PlusPower_24 rfl (lv_at hl 2 rfl) ?_
        refine lv_iload hx hb d_W_dividedBy1PlusPower_25 (lv_at hl 5 rfl) ?_
        refine lv_iushr (v := ((tabI (x &&& 7).toNatClampNeg : Int32).toUInt32 >>> ((nI i : Int32).toUInt32 &&& Int32.toUInt32 31)).toInt32) hx hb d_W_dividedBy1PlusPower_27 rfl ?_
        refine lv_iconst (v := 1) hx hb d_W_dividedBy1PlusPower_28 (by decide) ?_
        refine lv_iand hx hb d_W_dividedBy1PlusPower_29 ?_
        refine lv_if_eq (tgt := 39) hx hb d_W_dividedBy1PlusPower_30 rfl (fun g30 => ?_) (fun g30 => ?_)
        · refine lv_iload_n hx hb d_W_dividedBy1PlusPower_39 rfl (lv_at hl 3 rfl) ?_
          refine k_roi (va_runS (As := [.int (dblN i w)]) (rest := []) ⟨hx, hb, hml, hown, hts⟩ (c_Words_doubled l D (dblN i w)) (k_cwS 1 hts m_code_W_doubled m_ini_W m_l_W_11 m_stat_W_doubled h_W_doubled rfl rfl ⟨Nat.le_of_ble_eq_true rfl, Nat.le_of_ble_eq_true rfl⟩) (k_s0) rfl rfl hl.1 rfl (lv_room (Nat.le_of_ble_eq_true rfl)) d_W_dividedBy1PlusPower_40 ⟨Nat.zero_le _, Nat.zero_le _⟩) ?_
          refine lv_istore_n (lv' := [(3, .int (dbl (dblN i w))), (0, .int x), (1, .int w), (2, .int (tabI (x &&& 7).toNatClampNeg)), (4, .int (dvR (tabI (x &&& 7).toNatClampNeg) w i)), (5, .int (nI i))]) hx hb d_W_dividedBy1PlusPower_43 rfl hl (by decide) rfl (fun ls hl => ?_)
          refine lv_iinc (k := 5) (v := nI (i + 1)) (lv' := [(5, .int (nI (i + 1))), (3, .int (dbl (dblN i w))), (0, .int x), (1, .int w), (2, .int (tabI (x &&& 7).toNatClampNeg)), (4, .int (dvR (tabI (x &&& 7).toNatClampNeg) w i))]) hx hb d_W_dividedBy1PlusPower_44 hl rfl (nI_add i 1) (by decide) rfl (fun ls hl => ?_)
          refine lv_goto hx hb d_W_dividedBy1PlusPower_47 rfl ?_
          have e1 : dblN (i + 1) w = dbl (dblN i w) := by first | rfl | (simp [dvR, dv1, g21, h21, g30]; done) | omega
          have e2 : dvR (tabI (x &&& 7).toNatClampNeg) w (i + 1) = dvR (tabI (x &&& 7).toNatClampNeg) w i := by first | rfl | (simp [dvR, dv1, g21, h21, g30]; done) | omega
          exact ih (i + 1) ls (by omega) (by rw [e1, e2]; exact lv_sub hl [2, 3, 4, 1, 5, 0] rfl)
        · refine lv_iload hx hb d_W_dividedBy1PlusPower_33 (lv_at hl 4 rfl) ?_
          refine lv_iload_n hx hb d_W_dividedBy1PlusPower_35 rfl (lv_at hl 3 rfl) ?_
          refine lv_ixor hx hb d_W_dividedBy1PlusPower_36 ?_
          refine lv_istore (lv' := [(4, .int ((dvR (tabI (x &&& 7).toNatClampNeg) w i) ^^^ (dblN i w))), (0, .int x), (1, .int w), (2, .int (tabI (x &&& 7).toNatClampNeg)), (3, .int (dblN i w)), (5, .int (nI i))]) hx hb d_W_dividedBy1PlusPower_37 hl (by decide) rfl (fun ls hl => ?_)
          refine lv_iload_n hx hb d_W_dividedBy1PlusPower_39 rfl (lv_at hl 4 rfl) ?_
          refine k_roi (va_runS (As := [.int (dblN i w)]) (rest := []) ⟨hx, hb, hml, hown, hts⟩ (c_Words_doubled l D (dblN i w)) (k_cwS 1 hts m_code_W_doubled m_ini_W m_l_W_11 m_stat_W_doubled h_W_doubled rfl rfl ⟨Nat.le_of_ble_eq_true rfl, Nat.le_of_ble_eq_true rfl⟩) (k_s0) rfl rfl hl.1 rfl (lv_room (Nat.le_of_ble_eq_true rfl)) d_W_dividedBy1PlusPower_40 ⟨Nat.zero_le _, Nat.zero_le _⟩) ?_
          refine lv_istore_n (lv' := [(3, .int (dbl (dblN i w))), (4, .int ((dvR (tabI (x &&& 7).toNatClampNeg) w i) ^^^ (dblN i w))), (0, .int x), (1, .int w), (2, .int (tabI (x &&& 7).toNatClampNeg)), (5, .int (nI i))]) hx hb d_W_dividedBy1PlusPower_43 rfl hl (by decide) rfl (fun ls hl => ?_)
          refine lv_iinc (k := 5) (v := nI (i + 1)) (lv' := [(5, .int (nI (i + 1))), (3, .int (dbl (dblN i w))), (4, .int ((dvR (tabI (x &&& 7).toNatClampNeg) w i) ^^^ (dblN i w))), (0, .int x), (1, .int w), (2, .int (tabI (x &&& 7).toNatClampNeg))]) hx hb d_W_dividedBy1PlusPower_44 hl rfl (nI_add i 1) (by decide) rfl (fun ls hl => ?_)
          refine lv_goto hx hb d_W_dividedBy1PlusPower_47 rfl ?_
          have e3 : dblN (i + 1) w = dbl (dblN i w) := by first | rfl | (simp [dvR, dv1, g21, h21, g30]; done) | omega
          have e4 : dvR (tabI (x &&& 7).toNatClampNeg) w (i + 1) = (dvR (tabI (x &&& 7).toNatClampNeg) w i) ^^^ (dblN i w) := by first | rfl | (simp [dvR, dv1, g21, h21, g30]; done) | omega
          exact ih (i + 1) ls (by omega) (by rw [e3, e4]; exact lv_sub hl [3, 4, 5, 1, 2, 0] rfl)
  have e5 : dblN 0 w = w := by first | rfl | (simp [dvR, dv1]; done) | omega
  have e6 : dvR (tabI (x &&& 7).toNatClampNeg) w 0 = 0 := by first | rfl | (simp [dvR, dv1]; done) | omega
  have e7 : nI 0 = 0 := by first | rfl | (simp [dvR, dv1]; done) | omega
  exact L17 8 0 ls (by omega) (by rw [e5, e6, e7]; exact lv_sub hl [4, 5, 3, 2, 1, 0] rfl)
