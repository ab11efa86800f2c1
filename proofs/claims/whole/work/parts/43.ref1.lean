set_option maxHeartbeats 4000000 in
set_option maxRecDepth 100000 in
theorem c_Model_byteTimes (l : Launch) (D : va_G) (a j : Nat) (ha : a < 256) (hj : j ≤ 10) : Met l y_M_byteTimes w_M_byteTimes ({ frames := 0, cells := 0, slots := 0, locals := 0 }) (va_Pc [.int (nI a), .int (nI j)] (fun _ => True)) (k_Ro (some (.int (nI (btN j a))))) 0 0 (fun _ => False) := by
  refine Met.ofW (cc := b_M_byteTimes) (maxL := 4) (ret := (some .int)) (by decide) rfl ?_
  intro p e s m args below meth c s₁ B hml hv
  obtain ⟨rfl, hTb⟩ := hv
  have hx := B.exec
  have hb := B.bytes
  have hr := B.returns
  have hts0 := atoms_spec (ws := w_M_byteTimes) B.pre
  have hts : ∀ w ∈ lw_g, w.before _ s = true := fun w h => hts0 w (List.mem_cons_of_mem _ h)
  have hown : s.vm.findClass R_M = some m.cls := findClass_of_methodNamed B.named
  have hlocks := B.notSynchronized
  have hl := lv_entry ([.int (nI a), .int (nI j)]) (n := 4) (Nat.le_of_ble_eq_true rfl)
  rw [lg_entry_eq]
  generalize (lg_sl ([.int (nI a), .int (nI j)]) ++ List.replicate (4 - (lg_sl ([.int (nI a), .int (nI j)])).length) Slot.unset).toArray = ls at hl ⊢
  have hl : lv_has ls 4 [(0, .int (nI a)), (1, .int (nI j))] := hl
  refine lv_iload_n hx hb d_M_byteTimes_0 rfl (lv_at hl 0 rfl) ?_
  refine lv_istore_n (lv' := [(2, .int (nI a)), (0, .int (nI a)), (1, .int (nI j))]) hx hb d_M_byteTimes_1 rfl hl (by decide) rfl (fun ls hl => ?_)
  refine lv_iconst (v := 0) hx hb d_M_byteTimes_2 (by decide) ?_
  refine lv_istore_n (lv' := [(3, .int 0), (2, .int (nI a)), (0, .int (nI a)), (1, .int (nI j))]) hx hb d_M_byteTimes_3 rfl hl (by decide) rfl (fun ls hl => ?_)
  have L4 : ∀ (k : Nat) (i : Nat) (ls : Array Slot), i + k = j → lv_has ls 4 [(0, .int (nI a)), (1, .int (nI j)), (2, .int (nI (btN i a))), (3, .int (nI i))] → W p l e (headSpec w_M_byteTimes ({ frames := 0, cells := 0, slots := 0, locals := 0 })).room s m ([.int (nI a), .int (nI j)] : List Value).toArray below meth c s.heap [] 0 0 (MQ below (k_Ro (some (.int (nI (btN j a))))) ([.int (nI a), .int (nI j)] : List Value).toArray s 0 0 (fun _ => False)) (F0 m 4 ls []) := by
    intro k
    induction k with
    | zero =>
      intro i ls hk hl
      obtain rfl : j = i := by omega
      have hbt := btN_lt j ha
      refine lv_iload_n hx hb d_M_byteTimes_4 rfl (lv_at hl 3 rfl) ?_
      refine lv_iload_n hx hb d_M_byteTimes_5 rfl (lv_at hl 1 rfl) ?_
      refine lv_icmp_ge (tgt := 39) hx hb d_M_byteTimes_6 rfl (fun g6 => ?_) (fun g6 => ?_)
      · have h6 : j ≤ j := (nI_leI (a := j) (b := j) (by omega) (by omega)).mp g6
        have k6 : ¬ j < j := by omega
        refine lv_iload_n hx hb d_M_byteTimes_39 rfl (lv_at hl 2 rfl) ?_
        exact W.iret (v := nI (btN j a)) hx hb hr (fun t ht hW => ⟨rfl, ht⟩) (fun _ h => by cases h) d_M_byteTimes_40
      · have h6 : ¬ j ≤ j := fun q9 => g6 ((nI_leI (a := j) (b := j) (by omega) (by omega)).mpr q9)
        have k6 : j < j := by omega
        exfalso; omega
    | succ k ih =>
      intro i ls hk hl
      have hbt := btN_lt i ha
      refine lv_iload_n hx hb d_M_byteTimes_4 rfl (lv_at hl 3 rfl) ?_
      refine lv_iload_n hx hb d_M_byteTimes_5 rfl (lv_at hl 1 rfl) ?_
      refine lv_icmp_ge (tgt := 39) hx hb d_M_byteTimes_6 rfl (fun g6 => ?_) (fun g6 => ?_)
      · have h6 : j ≤ i := (nI_leI (a := j) (b := i) (by omega) (by omega)).mp g6
        have k6 : ¬ i < j := by omega
        exfalso; omega
      · have h6 : ¬ j ≤ i := fun q9 => g6 ((nI_leI (a := j) (b := i) (by omega) (by omega)).mpr q9)
        have k6 : i < j := by omega
        refine lv_iload_n hx hb d_M_byteTimes_9 rfl (lv_at hl 2 rfl) ?_
        refine lv_sipush (v := 128) hx hb d_M_byteTimes_10 (by decide) ?_
        refine lv_icmp_ge (tgt := 22) hx hb d_M_byteTimes_13 rfl (fun g13 => ?_) (fun g13 => ?_)
        · have h13 : 128 ≤ (btN i a) := (nI_leI (a := 128) (b := btN i a) (by omega) (by omega)).mp g13
          have k13 : ¬ (btN i a) < 128 := by omega
          refine lv_iconst (v := 2) hx hb d_M_byteTimes_22 (by decide) ?_
          refine lv_iload_n hx hb d_M_byteTimes_23 rfl (lv_at hl 2 rfl) ?_
          refine lv_imul hx hb d_M_byteTimes_24 ?_
          refine k_top (nI (2 * (btN i a))) (pk_mul 2 (btN i a)) ?_
          refine lv_sipush (v := 256) hx hb d_M_byteTimes_25 (by decide) ?_
          refine lv_isub hx hb d_M_byteTimes_28 ?_
          refine k_top (nI (2 * (btN i a) - 256)) (pk_sub (a := 2 * (btN i a)) (b := 256) (by omega)) ?_
          refine lv_bipush (v := 29) hx hb d_M_byteTimes_29 (by decide) ?_
          refine lv_ixor hx hb d_M_byteTimes_31 ?_
          refine k_top (nI ((2 * (btN i a) - 256) ^^^ 29)) (nx_xor (2 * (btN i a) - 256) 29) ?_
          refine lv_istore_n (lv' := [(2, .int (nI ((2 * (btN i a) - 256) ^^^ 29))), (0, .int (nI a)), (1, .int (nI j)), (3, .int (nI i))]) hx hb d_M_byteTimes_32 rfl hl (by decide) rfl (fun ls hl => ?_)
          refine lv_iinc (k := 3) (v := nI (i + 1)) (lv' := [(3, .int (nI (i + 1))), (2, .int (nI ((2 * (btN i a) - 256) ^^^ 29))), (0, .int (nI a)), (1, .int (nI j))]) hx hb d_M_byteTimes_33 hl rfl (nI_add i 1) (by decide) rfl (fun ls hl => ?_)
          refine lv_goto hx hb d_M_byteTimes_36 rfl ?_
          have e1 : nI (btN (i + 1) a) = nI ((2 * (btN i a) - 256) ^^^ 29) := by first | rfl | ((try unfold bt1); (repeat (first | rw [if_pos g6] | rw [if_neg g6] | rw [if_pos h6] | rw [if_neg h6] | rw [if_pos k6] | rw [if_neg k6] | rw [if_pos g13] | rw [if_neg g13] | rw [if_pos h13] | rw [if_neg h13] | rw [if_pos k13] | rw [if_neg k13] | rw [if_neg (show ¬ true = false by decide)] | rw [if_pos (show false = false from rfl)] | dsimp only)); first | done | rfl) | (simp [btN, bt1, g6, h6, k6, g13, h13, k13]; done) | omega
          exact ih (i + 1) ls (by omega) (by rw [e1]; exact lv_sub hl [2, 3, 1, 0] rfl)
        · have h13 : ¬ 128 ≤ (btN i a) := fun q9 => g13 ((nI_leI (a := 128) (b := btN i a) (by omega) (by omega)).mpr q9)
          have k13 : (btN i a) < 128 := by omega
          refine lv_iconst (v := 2) hx hb d_M_byteTimes_16 (by decide) ?_
          refine lv_iload_n hx hb d_M_byteTimes_17 rfl (lv_at hl 2 rfl) ?_
          refine lv_imul hx hb d_M_byteTimes_18 ?_
          refine k_top (nI (2 * (btN i a))) (pk_mul 2 (btN i a)) ?_
          refine lv_goto hx hb d_M_byteTimes_19 rfl ?_
          refine lv_istore_n (lv' := [(2, .int (nI (2 * (btN i a)))), (0, .int (nI a)), (1, .int (nI j)), (3, .int (nI i))]) hx hb d_M_byteTimes_32 rfl hl (by decide) rfl (fun ls hl => ?_)
          refine lv_iinc (k := 3) (v := nI (i + 1)) (lv' := [(3, .int (nI (i + 1))), (2, .int (nI (2 * (btN i a)))), (0, .int (nI a)), (1, .int (nI j))]) hx hb d_M_byteTimes_33 hl rfl (nI_add i 1) (by decide) rfl (fun ls hl => ?_)
          refine lv_goto hx hb d_M_byteTimes_36 rfl ?_
          have e2 : nI (btN (i + 1) a) = nI (2 * (btN i a)) := by first | rfl | ((try unfold bt1); (repeat (first | rw [if_pos g6] | rw [if_neg g6] | rw [if_pos h6] | rw [if_neg h6] | rw [if_pos k6] | rw [if_neg k6] | rw [if_pos g13] | rw [if_neg g13] | rw [if_pos h13] | rw [if_neg h13] | rw [if_pos k13] | rw [if_neg k13] | rw [if_neg (show ¬ true = false by decide)] | rw [if_pos (show false = false from rfl)] | dsimp only)); first | done | rfl) | (simp [btN, bt1, g6, h6, k6, g13, h13, k13]; done) | omega
          exact ih (i + 1) ls (by omega) (by rw [e2]; exact lv_sub hl [2, 3, 1, 0] rfl)
  have e3 : nI (btN 0 a) = nI a := by first | rfl | (simp [btN, bt1]; done) | omega
  have e4 : nI 0 = 0 := by first | rfl | (simp [btN, bt1]; done) | omega
  exact L4 j 0 ls (by omega) (by rw [e3, e4]; exact lv_sub hl [2, 3, 1, 0] rfl)
set_option maxHeartbeats 4000000 in
set_option maxRecDepth 100000 in
theorem c_Model_times (l : Launch) (D : va_G) (w : Int32) (j : Nat) (hj : j ≤ 10) : Met l y_M_times w_M_times ({ frames := 1, cells := 0, slots := 0, locals := 23 }) (va_Pc [.int w, .int (nI j)] (fun _ => True)) (k_Ro (some (.int (tmL w j 4)))) 0 0 (fun _ => False) := by
  refine Met.ofW (cc := b_M_times) (maxL := 5) (ret := (some .int)) (by decide) rfl ?_
  intro p e s m args below meth c s₁ B hml hv
  obtain ⟨rfl, hTb⟩ := hv
  have hx := B.exec
  have hb := B.bytes
  have hr := B.returns
  have hts0 := atoms_spec (ws := w_M_times) B.pre
  have hts : ∀ w ∈ lw_g, w.before _ s = true := fun w h => hts0 w (List.mem_cons_of_mem _ h)
  have hown : s.vm.findClass R_M = some m.cls := findClass_of_methodNamed B.named
  have hlocks := B.notSynchronized
  have hl := lv_entry ([.int w, .int (nI j)]) (n := 5) (Nat.le_of_ble_eq_true rfl)
  rw [lg_entry_eq]
  generalize (lg_sl ([.int w, .int (nI j)]) ++ List.replicate (5 - (lg_sl ([.int w, .int (nI j)])).length) Slot.unset).toArray = ls at hl ⊢
  have hl : lv_has ls 5 [(0, .int w), (1, .int (nI j))] := hl
  refine lv_iconst (v := 0) hx hb d_M_times_0 (by decide) ?_
  refine lv_istore_n (lv' := [(2, .int 0), (0, .int w), (1, .int (nI j))]) hx hb d_M_times_1 rfl hl (by decide) rfl (fun ls hl => ?_)
  refine lv_iconst (v := 0) hx hb d_M_times_2 (by decide) ?_
  refine lv_istore_n (lv' := [(3, .int 0), (2, .int 0), (0, .int w), (1, .int (nI j))]) hx hb d_M_times_3 rfl hl (by decide) rfl (fun ls hl => ?_)
  have L4 : ∀ (k : Nat) (t : Nat) (ls : Array Slot), t + k = 4 → lv_has ls 5 [(0, .int w), (1, .int (nI j)), (2, .int (tmL w j t)), (3, .int (nI (8 * t)))] → W p l e (headSpec w_M_times ({ frames := 1, cells := 0, slots := 0, locals := 23 })).room s m ([.int w, .int (nI j)] : List Value).toArray below meth c s.heap [] 0 0 (MQ below (k_Ro (some (.int (tmL w j 4)))) ([.int w, .int (nI j)] : List Value).toArray s 0 0 (fun _ => False)) (F0 m 4 ls []) := by
    intro k
    induction k with
    | zero =>
      intro t ls hk hl
      obtain rfl : 4 = t := by omega
      refine lv_iload_n hx hb d_M_times_4 rfl (lv_at hl 3 rfl) ?_
      refine lv_bipush (v := 32) hx hb d_M_times_5 (by decide) ?_
      refine lv_icmp_ge (tgt := 36) hx hb d_M_times_7 rfl (fun g7 => ?_) (fun g7 => ?_)
      · have h7 : 32 ≤ (8 * 4) := (nI_leI (a := 32) (b := 8 * 4) (by omega) (by omega)).mp g7
        have k7 : ¬ (8 * 4) < 32 := by omega
        refine lv_iload_n hx hb d_M_times_36 rfl (lv_at hl 2 rfl) ?_
        exact W.iret (v := tmL w j 4) hx hb hr (fun t ht hW => ⟨rfl, ht⟩) (fun _ h => by cases h) d_M_times_37
      · have h7 : ¬ 32 ≤ (8 * 4) := fun q9 => g7 ((nI_leI (a := 32) (b := 8 * 4) (by omega) (by omega)).mpr q9)
        have k7 : (8 * 4) < 32 := by omega
        exfalso; omega
    | succ k ih =>
      intro t ls hk hl
      refine lv_iload_n hx hb d_M_times_4 rfl (lv_at hl 3 rfl) ?_
      refine lv_bipush (v := 32) hx hb d_M_times_5 (by decide) ?_
      refine lv_icmp_ge (tgt := 36) hx hb d_M_times_7 rfl (fun g7 => ?_) (fun g7 => ?_)
      · have h7 : 32 ≤ (8 * t) := (nI_leI (a := 32) (b := 8 * t) (by omega) (by omega)).mp g7
        have k7 : ¬ (8 * t) < 32 := by omega
        exfalso; omega
      · have h7 : ¬ 32 ≤ (8 * t) := fun q9 => g7 ((nI_leI (a := 32) (b := 8 * t) (by omega) (by omega)).mpr q9)
        have k7 : (8 * t) < 32 := by omega
        refine lv_iload_n hx hb d_M_times_10 rfl (lv_at hl 0 rfl) ?_
        refine lv_iload_n hx hb d_M_times_11 rfl (lv_at hl 3 rfl) ?_
        refine lv_iushr (v := ((w : Int32).toUInt32 >>> ((nI (8 * t) : Int32).toUInt32 &&& Int32.toUInt32 31)).toInt32) hx hb d_M_times_12 rfl ?_
        refine lv_sipush (v := 255) hx hb d_M_times_13 (by decide) ?_
        refine lv_iand hx hb d_M_times_16 ?_
        refine k_top (nI (ln t w)) (by exact ln_row (by omega) w) ?_
        refine lv_istore (lv' := [(4, .int (nI (ln t w))), (0, .int w), (1, .int (nI j)), (2, .int (tmL w j t)), (3, .int (nI (8 * t)))]) hx hb d_M_times_17 hl (by decide) rfl (fun ls hl => ?_)
        refine lv_iload_n hx hb d_M_times_19 rfl (lv_at hl 3 rfl) ?_
        refine lv_iload hx hb d_M_times_20 (lv_at hl 0 rfl) ?_
        refine lv_iload_n hx hb d_M_times_22 rfl (lv_at hl 2 rfl) ?_
        refine k_roi (va_runS (As := [.int (nI (ln t w)), .int (nI j)]) (rest := [.int (tmL w j t)]) ⟨hx, hb, hml, hown, hts⟩ (c_Model_byteTimes l D (ln t w) j (by exact ln_lt t w) (by omega)) (k_cwS 2 hts m_code_M_byteTimes m_ini_M m_l_M_35 m_stat_M_byteTimes h_M_byteTimes rfl rfl ⟨Nat.le_of_ble_eq_true rfl, Nat.le_of_ble_eq_true rfl⟩) (k_s0) rfl rfl hl.1 rfl (lv_room (Nat.le_of_ble_eq_true rfl)) d_M_times_23 ⟨Nat.zero_le _, Nat.zero_le _⟩) ?_
        have f1 : btN j (ln t w) < 256 := btN_lt _ (by first | omega | exact ln_lt _ _ | exact lt_xor8 (by omega) (ln_lt _ _))
        refine lv_iload_n hx hb d_M_times_26 rfl (lv_at hl 4 rfl) ?_
        refine lv_ishl hx hb d_M_times_27 ?_
        refine lv_ior hx hb d_M_times_28 ?_
        refine lv_istore_n (lv' := [(2, .int ((tmL w j t) ||| ((nI (btN j (ln t w))) <<< ((nI (8 * t)) &&& 31)))), (4, .int (nI (ln t w))), (0, .int w), (1, .int (nI j)), (3, .int (nI (8 * t)))]) hx hb d_M_times_29 rfl hl (by decide) rfl (fun ls hl => ?_)
        refine lv_iinc (k := 4) (v := nI (8 * t + 8)) (lv' := [(3, .int (nI (8 * t + 8))), (2, .int ((tmL w j t) ||| ((nI (btN j (ln t w))) <<< ((nI (8 * t)) &&& 31)))), (4, .int (nI (ln t w))), (0, .int w), (1, .int (nI j))]) hx hb d_M_times_30 hl rfl (nI_add (8 * t) 8) (by decide) rfl (fun ls hl => ?_)
        refine lv_goto hx hb d_M_times_33 rfl ?_
        have e2 : tmL w j (t + 1) = (tmL w j t) ||| ((nI (btN j (ln t w))) <<< ((nI (8 * t)) &&& 31)) := by first | rfl | (simp [tmL, g7, h7, k7]; done) | omega
        have e3 : nI (8 * (t + 1)) = nI (8 * t + 8) := by first | rfl | (simp [tmL, g7, h7, k7]; done) | omega
        exact ih (t + 1) ls (by omega) (by rw [e2, e3]; exact lv_sub hl [3, 4, 1, 0] rfl)
  have e4 : tmL w j 0 = 0 := by first | rfl | (simp [tmL]; done) | omega
  have e5 : nI (8 * 0) = 0 := by first | rfl | (simp [tmL]; done) | omega
  exact L4 4 0 ls (by omega) (by rw [e4, e5]; exact lv_sub hl [2, 3, 1, 0] rfl)
set_option maxHeartbeats 4000000 in
set_option maxRecDepth 100000 in
theorem c_Model_unTimes (l : Launch) (D : va_G) (w : Int32) (j : Nat) (hj : j ≤ 10) : Met l y_M_unTimes w_M_unTimes ({ frames := 1, cells := 0, slots := 0, locals := 23 }) (va_Pc [.int w, .int (nI j)] (fun _ => True)) (k_Ro (some (.int (unO w j 4)))) 0 0 (fun _ => False) := by
  refine Met.ofW (cc := b_M_unTimes) (maxL := 5) (ret := (some .int)) (by decide) rfl ?_
  intro p e s m args below meth c s₁ B hml hv
  obtain ⟨rfl, hTb⟩ := hv
  have hx := B.exec
  have hb := B.bytes
  have hr := B.returns
  have hts0 := atoms_spec (ws := w_M_unTimes) B.pre
  have hts : ∀ w ∈ lw_g, w.before _ s = true := fun w h => hts0 w (List.mem_cons_of_mem _ h)
  have hown : s.vm.findClass R_M = some m.cls := findClass_of_methodNamed B.named
  have hlocks := B.notSynchronized
  have hl := lv_entry ([.int w, .int (nI j)]) (n := 5) (Nat.le_of_ble_eq_true rfl)
  rw [lg_entry_eq]
  generalize (lg_sl ([.int w, .int (nI j)]) ++ List.replicate (5 - (lg_sl ([.int w, .int (nI j)])).length) Slot.unset).toArray = ls at hl ⊢
  have hl : lv_has ls 5 [(0, .int w), (1, .int (nI j))] := hl
  refine lv_iconst (v := 0) hx hb d_M_unTimes_0 (by decide) ?_
  refine lv_istore_n (lv' := [(2, .int 0), (0, .int w), (1, .int (nI j))]) hx hb d_M_unTimes_1 rfl hl (by decide) rfl (fun ls hl => ?_)
  refine lv_iconst (v := 0) hx hb d_M_unTimes_2 (by decide) ?_
  refine lv_istore_n (lv' := [(3, .int 0), (2, .int 0), (0, .int w), (1, .int (nI j))]) hx hb d_M_unTimes_3 rfl hl (by decide) rfl (fun ls hl => ?_)
  have L4 : ∀ (k : Nat) (t : Nat) (ls : Array Slot), t + k = 4 → lv_has ls 5 [(0, .int w), (1, .int (nI j)), (2, .int (unO w j t)), (3, .int (nI (8 * t)))] → W p l e (headSpec w_M_unTimes ({ frames := 1, cells := 0, slots := 0, locals := 23 })).room s m ([.int w, .int (nI j)] : List Value).toArray below meth c s.heap [] 0 0 (MQ below (k_Ro (some (.int (unO w j 4)))) ([.int w, .int (nI j)] : List Value).toArray s 0 0 (fun _ => False)) (F0 m 4 ls []) := by
    intro k
    induction k with
    | zero =>
      intro t ls hk hl
      obtain rfl : 4 = t := by omega
      refine lv_iload_n hx hb d_M_unTimes_4 rfl (lv_at hl 3 rfl) ?_
      refine lv_bipush (v := 32) hx hb d_M_unTimes_5 (by decide) ?_
      refine lv_icmp_ge (tgt := 60) hx hb d_M_unTimes_7 rfl (fun g7 => ?_) (fun g7 => ?_)
      · have h7 : 32 ≤ (8 * 4) := (nI_leI (a := 32) (b := 8 * 4) (by omega) (by omega)).mp g7
        have k7 : ¬ (8 * 4) < 32 := by omega
        refine lv_iload_n hx hb d_M_unTimes_60 rfl (lv_at hl 2 rfl) ?_
        exact W.iret (v := unO w j 4) hx hb hr (fun t ht hW => ⟨rfl, ht⟩) (fun _ h => by cases h) d_M_unTimes_61
      · have h7 : ¬ 32 ≤ (8 * 4) := fun q9 => g7 ((nI_leI (a := 32) (b := 8 * 4) (by omega) (by omega)).mpr q9)
        have k7 : (8 * 4) < 32 := by omega
        exfalso; omega
    | succ k ih =>
      intro t ls hk hl
      refine lv_iload_n hx hb d_M_unTimes_4 rfl (lv_at hl 3 rfl) ?_
      refine lv_bipush (v := 32) hx hb d_M_unTimes_5 (by decide) ?_
      refine lv_icmp_ge (tgt := 60) hx hb d_M_unTimes_7 rfl (fun g7 => ?_) (fun g7 => ?_)
      · have h7 : 32 ≤ (8 * t) := (nI_leI (a := 32) (b := 8 * t) (by omega) (by omega)).mp g7
        have k7 : ¬ (8 * t) < 32 := by omega
        exfalso; omega
      · have h7 : ¬ 32 ≤ (8 * t) := fun q9 => g7 ((nI_leI (a := 32) (b := 8 * t) (by omega) (by omega)).mpr q9)
        have k7 : (8 * t) < 32 := by omega
        refine lv_iconst (v := 0) hx hb d_M_unTimes_10 (by decide) ?_
        refine lv_istore (lv' := [(4, .int 0), (0, .int w), (1, .int (nI j)), (2, .int (unO w j t)), (3, .int (nI (8 * t)))]) hx hb d_M_unTimes_11 hl (by decide) rfl (fun ls hl => ?_)
        have L13 : ∀ (k : Nat) (x : Nat) (ls : Array Slot), x + k = 256 → lv_has ls 5 [(0, .int w), (1, .int (nI j)), (2, .int (unL w j t (unO w j t) x)), (3, .int (nI (8 * t))), (4, .int (nI x))] → W p l e (headSpec w_M_unTimes ({ frames := 1, cells := 0, slots := 0, locals := 23 })).room s m ([.int w, .int (nI j)] : List Value).toArray below meth c s.heap [] 0 0 (MQ below (k_Ro (some (.int (unO w j 4)))) ([.int w, .int (nI j)] : List Value).toArray s 0 0 (fun _ => False)) (F0 m 13 ls []) := by
          intro k
          induction k with
          | zero =>
            intro x ls hk hl
            obtain rfl : 256 = x := by omega
            have hln := ln_lt t w
            refine lv_iload hx hb d_M_unTimes_13 (lv_at hl 4 rfl) ?_
            refine lv_sipush (v := 256) hx hb d_M_unTimes_15 (by decide) ?_
            refine lv_icmp_ge (tgt := 54) hx hb d_M_unTimes_18 rfl (fun g18 => ?_) (fun g18 => ?_)
            · have h18 : 256 ≤ 256 := (nI_leI (a := 256) (b := 256) (by omega) (by omega)).mp g18
              have k18 : ¬ 256 < 256 := by omega
              refine lv_iinc (k := 3) (v := nI (8 * t + 8)) (lv' := [(3, .int (nI (8 * t + 8))), (0, .int w), (1, .int (nI j)), (2, .int (unL w j t (unO w j t) 256)), (4, .int (nI 256))]) hx hb d_M_unTimes_54 hl rfl (nI_add (8 * t) 8) (by decide) rfl (fun ls hl => ?_)
              refine lv_goto hx hb d_M_unTimes_57 rfl ?_
              have e1 : unO w j (t + 1) = unL w j t (unO w j t) 256 := by first | rfl | (simp [unL, unO, g7, h7, k7, g18, h18, k18]; done) | omega
              have e2 : nI (8 * (t + 1)) = nI (8 * t + 8) := by first | rfl | (simp [unL, unO, g7, h7, k7, g18, h18, k18]; done) | omega
              exact ih (t + 1) ls (by omega) (by rw [e1, e2]; exact lv_sub hl [1, 2, 3, 0] rfl)
            · have h18 : ¬ 256 ≤ 256 := fun q9 => g18 ((nI_leI (a := 256) (b := 256) (by omega) (by omega)).mpr q9)
              have k18 : 256 < 256 := by omega
              exfalso; omega
          | succ k ih =>
            intro x ls hk hl
            have hln := ln_lt t w
            refine lv_iload hx hb d_M_unTimes_13 (lv_at hl 4 rfl) ?_
            refine lv_sipush (v := 256) hx hb d_M_unTimes_15 (by decide) ?_
            refine lv_icmp_ge (tgt := 54) hx hb d_M_unTimes_18 rfl (fun g18 => ?_) (fun g18 => ?_)
            · have h18 : 256 ≤ x := (nI_leI (a := 256) (b := x) (by omega) (by omega)).mp g18
              have k18 : ¬ x < 256 := by omega
              exfalso; omega
            · have h18 : ¬ 256 ≤ x := fun q9 => g18 ((nI_leI (a := 256) (b := x) (by omega) (by omega)).mpr q9)
              have k18 : x < 256 := by omega
              refine lv_iload_n hx hb d_M_unTimes_21 rfl (lv_at hl 2 rfl) ?_
              refine lv_iload hx hb d_M_unTimes_22 (lv_at hl 4 rfl) ?_
              refine lv_iload_n hx hb d_M_unTimes_24 rfl (lv_at hl 1 rfl) ?_
              refine k_roi (va_runS (As := [.int (nI x), .int (nI j)]) (rest := [.int (unL w j t (unO w j t) x)]) ⟨hx, hb, hml, hown, hts⟩ (c_Model_byteTimes l D x j (by omega) (by omega)) (k_cwS 2 hts m_code_M_byteTimes m_ini_M m_l_M_35 m_stat_M_byteTimes h_M_byteTimes rfl rfl ⟨Nat.le_of_ble_eq_true rfl, Nat.le_of_ble_eq_true rfl⟩) (k_s0) rfl rfl hl.1 rfl (lv_room (Nat.le_of_ble_eq_true rfl)) d_M_unTimes_25 ⟨Nat.zero_le _, Nat.zero_le _⟩) ?_
              have f3 : btN j x < 256 := btN_lt _ (by first | omega | exact ln_lt _ _ | exact lt_xor8 (by omega) (ln_lt _ _))
              refine lv_iload_n hx hb d_M_unTimes_28 rfl (lv_at hl 0 rfl) ?_
              refine lv_iload_n hx hb d_M_unTimes_29 rfl (lv_at hl 3 rfl) ?_
              refine lv_iushr (v := ((w : Int32).toUInt32 >>> ((nI (8 * t) : Int32).toUInt32 &&& Int32.toUInt32 31)).toInt32) hx hb d_M_unTimes_30 rfl ?_
              refine lv_sipush (v := 255) hx hb d_M_unTimes_31 (by decide) ?_
              refine lv_iand hx hb d_M_unTimes_34 ?_
              refine k_top (nI (ln t w)) (by exact ln_row (by omega) w) ?_
              refine lv_icmp_ne (tgt := 45) hx hb d_M_unTimes_35 rfl (fun g35 => ?_) (fun g35 => ?_)
              · have h35 : ¬ (btN j x) = (ln t w) := fun q9 => g35 ((nI_eq (a := btN j x) (b := ln t w) (by omega) (by omega)).mpr q9)
                refine lv_iconst (v := 0) hx hb d_M_unTimes_45 (by decide) ?_
                refine lv_ior hx hb d_M_unTimes_46 ?_
                refine lv_istore_n (lv' := [(2, .int ((unL w j t (unO w j t) x) ||| 0)), (0, .int w), (1, .int (nI j)), (3, .int (nI (8 * t))), (4, .int (nI x))]) hx hb d_M_unTimes_47 rfl hl (by decide) rfl (fun ls hl => ?_)
                refine lv_iinc (k := 4) (v := nI (x + 1)) (lv' := [(4, .int (nI (x + 1))), (2, .int ((unL w j t (unO w j t) x) ||| 0)), (0, .int w), (1, .int (nI j)), (3, .int (nI (8 * t)))]) hx hb d_M_unTimes_48 hl rfl (nI_add x 1) (by decide) rfl (fun ls hl => ?_)
                refine lv_goto hx hb d_M_unTimes_51 rfl ?_
                have e4 : unL w j t (unO w j t) (x + 1) = (unL w j t (unO w j t) x) ||| 0 := by first | rfl | (show _ ||| (if _ then _ else _) = _; first | rw [if_pos h35] | rw [if_neg h35])
                exact ih (x + 1) ls (by omega) (by rw [e4]; exact lv_sub hl [2, 3, 1, 4, 0] rfl)
              · have h35 : (btN j x) = (ln t w) := (nI_eq (a := btN j x) (b := ln t w) (by omega) (by omega)).mp g35
                refine lv_iload hx hb d_M_unTimes_38 (lv_at hl 4 rfl) ?_
                refine lv_iload_n hx hb d_M_unTimes_40 rfl (lv_at hl 3 rfl) ?_
                refine lv_ishl hx hb d_M_unTimes_41 ?_
                refine lv_goto hx hb d_M_unTimes_42 rfl ?_
                refine lv_ior hx hb d_M_unTimes_46 ?_
                refine lv_istore_n (lv' := [(2, .int ((unL w j t (unO w j t) x) ||| ((nI x) <<< ((nI (8 * t)) &&& 31)))), (0, .int w), (1, .int (nI j)), (3, .int (nI (8 * t))), (4, .int (nI x))]) hx hb d_M_unTimes_47 rfl hl (by decide) rfl (fun ls hl => ?_)
                refine lv_iinc (k := 4) (v := nI (x + 1)) (lv' := [(4, .int (nI (x + 1))), (2, .int ((unL w j t (unO w j t) x) ||| ((nI x) <<< ((nI (8 * t)) &&& 31)))), (0, .int w), (1, .int (nI j)), (3, .int (nI (8 * t)))]) hx hb d_M_unTimes_48 hl rfl (nI_add x 1) (by decide) rfl (fun ls hl => ?_)
                refine lv_goto hx hb d_M_unTimes_51 rfl ?_
                have e5 : unL w j t (unO w j t) (x + 1) = (unL w j t (unO w j t) x) ||| ((nI x) <<< ((nI (8 * t)) &&& 31)) := by first | rfl | (show _ ||| (if _ then _ else _) = _; first | rw [if_pos h35] | rw [if_neg h35])
                exact ih (x + 1) ls (by omega) (by rw [e5]; exact lv_sub hl [2, 3, 1, 4, 0] rfl)
        have e6 : unL w j t (unO w j t) 0 = unO w j t := by first | rfl | (show _ ||| (if _ then _ else _) = _; first | rw [if_pos h35] | rw [if_neg h35])
        have e7 : nI 0 = 0 := by first | rfl | (simp [unL, unO, g7, h7, k7]; done) | omega
        exact L13 256 0 ls (by omega) (by rw [e6, e7]; exact lv_sub hl [1, 2, 3, 4, 0] rfl)
  have e8 : unO w j 0 = 0 := by first | rfl | (simp [unL, unO]; done) | omega
  have e9 : nI (8 * 0) = 0 := by first | rfl | (simp [unL, unO]; done) | omega
  exact L4 4 0 ls (by omega) (by rw [e8, e9]; exact lv_sub hl [2, 3, 1, 0] rfl)
set_option maxHeartbeats 4000000 in
set_option maxRecDepth 100000 in
theorem c_Model_solve (l : Launch) (D : va_G) (i0 j0 : Nat) (aw bw : Int32) (hi0 : i0 ≤ 10) (hj0 : j0 ≤ 10) : Met l y_M_solve w_M_solve ({ frames := 1, cells := 0, slots := 0, locals := 23 }) (va_Pc [.int (nI i0), .int (nI j0), .int aw, .int bw] (fun _ => True)) (k_Ro (some (.int (slO i0 j0 aw bw 4)))) 0 0 (fun _ => False) := by
  refine Met.ofW (cc := b_M_solve) (maxL := 10) (ret := (some .int)) (by decide) rfl ?_
  intro p e s m args below meth c s₁ B hml hv
  obtain ⟨rfl, hTb⟩ := hv
  have hx := B.exec
  have hb := B.bytes
  have hr := B.returns
  have hts0 := atoms_spec (ws := w_M_solve) B.pre
  have hts : ∀ w ∈ lw_g, w.before _ s = true := fun w h => hts0 w (List.mem_cons_of_mem _ h)
  have hown : s.vm.findClass R_M = some m.cls := findClass_of_methodNamed B.named
  have hlocks := B.notSynchronized
  have hl := lv_entry ([.int (nI i0), .int (nI j0), .int aw, .int bw]) (n := 10) (Nat.le_of_ble_eq_true rfl)
  rw [lg_entry_eq]
  generalize (lg_sl ([.int (nI i0), .int (nI j0), .int aw, .int bw]) ++ List.replicate (10 - (lg_sl ([.int (nI i0), .int (nI j0), .int aw, .int bw])).length) Slot.unset).toArray = ls at hl ⊢
  have hl : lv_has ls 10 [(0, .int (nI i0)), (1, .int (nI j0)), (2, .int aw), (3, .int bw)] := hl
  refine lv_iconst (v := 0) hx hb d_M_solve_0 (by decide) ?_
  refine lv_istore (lv' := [(4, .int 0), (0, .int (nI i0)), (1, .int (nI j0)), (2, .int aw), (3, .int bw)]) hx hb d_M_solve_1 hl (by decide) rfl (fun ls hl => ?_)
  refine lv_iconst (v := 0) hx hb d_M_solve_3 (by decide) ?_
  refine lv_istore (lv' := [(5, .int 0), (4, .int 0), (0, .int (nI i0)), (1, .int (nI j0)), (2, .int aw), (3, .int bw)]) hx hb d_M_solve_4 hl (by decide) rfl (fun ls hl => ?_)
  have L6 : ∀ (k : Nat) (t : Nat) (ls : Array Slot), t + k = 4 → lv_has ls 10 [(0, .int (nI i0)), (1, .int (nI j0)), (2, .int aw), (3, .int bw), (4, .int (slO i0 j0 aw bw t)), (5, .int (nI (8 * t)))] → W p l e (headSpec w_M_solve ({ frames := 1, cells := 0, slots := 0, locals := 23 })).room s m ([.int (nI i0), .int (nI j0), .int aw, .int bw] : List Value).toArray below meth c s.heap [] 0 0 (MQ below (k_Ro (some (.int (slO i0 j0 aw bw 4)))) ([.int (nI i0), .int (nI j0), .int aw, .int bw] : List Value).toArray s 0 0 (fun _ => False)) (F0 m 6 ls []) := by
    intro k
    induction k with
    | zero =>
      intro t ls hk hl
      obtain rfl : 4 = t := by omega
      refine lv_iload hx hb d_M_solve_6 (lv_at hl 5 rfl) ?_
      refine lv_bipush (v := 32) hx hb d_M_solve_8 (by decide) ?_
      refine lv_icmp_ge (tgt := 95) hx hb d_M_solve_10 rfl (fun g10 => ?_) (fun g10 => ?_)
      · have h10 : 32 ≤ (8 * 4) := (nI_leI (a := 32) (b := 8 * 4) (by omega) (by omega)).mp g10
        have k10 : ¬ (8 * 4) < 32 := by omega
        refine lv_iload hx hb d_M_solve_95 (lv_at hl 4 rfl) ?_
        exact W.iret (v := slO i0 j0 aw bw 4) hx hb hr (fun t ht hW => ⟨rfl, ht⟩) (fun _ h => by cases h) d_M_solve_97
      · have h10 : ¬ 32 ≤ (8 * 4) := fun q9 => g10 ((nI_leI (a := 32) (b := 8 * 4) (by omega) (by omega)).mpr q9)
        have k10 : (8 * 4) < 32 := by omega
        exfalso; omega
    | succ k ih =>
      intro t ls hk hl
      refine lv_iload hx hb d_M_solve_6 (lv_at hl 5 rfl) ?_
      refine lv_bipush (v := 32) hx hb d_M_solve_8 (by decide) ?_
      refine lv_icmp_ge (tgt := 95) hx hb d_M_solve_10 rfl (fun g10 => ?_) (fun g10 => ?_)
      · have h10 : 32 ≤ (8 * t) := (nI_leI (a := 32) (b := 8 * t) (by omega) (by omega)).mp g10
        have k10 : ¬ (8 * t) < 32 := by omega
        exfalso; omega
      · have h10 : ¬ 32 ≤ (8 * t) := fun q9 => g10 ((nI_leI (a := 32) (b := 8 * t) (by omega) (by omega)).mpr q9)
        have k10 : (8 * t) < 32 := by omega
        refine lv_iload_n hx hb d_M_solve_13 rfl (lv_at hl 2 rfl) ?_
        refine lv_iload hx hb d_M_solve_14 (lv_at hl 5 rfl) ?_
        refine lv_iushr (v := ((aw : Int32).toUInt32 >>> ((nI (8 * t) : Int32).toUInt32 &&& Int32.toUInt32 31)).toInt32) hx hb d_M_solve_16 rfl ?_
        refine lv_sipush (v := 255) hx hb d_M_solve_17 (by decide) ?_
        refine lv_iand hx hb d_M_solve_20 ?_
        refine k_top (nI (ln t aw)) (by exact ln_row (by omega) aw) ?_
        refine lv_istore (lv' := [(6, .int (nI (ln t aw))), (0, .int (nI i0)), (1, .int (nI j0)), (2, .int aw), (3, .int bw), (4, .int (slO i0 j0 aw bw t)), (5, .int (nI (8 * t)))]) hx hb d_M_solve_21 hl (by decide) rfl (fun ls hl => ?_)
        refine lv_iload_n hx hb d_M_solve_23 rfl (lv_at hl 4 rfl) ?_
        refine lv_iload hx hb d_M_solve_24 (lv_at hl 6 rfl) ?_
        refine lv_iushr (v := ((bw : Int32).toUInt32 >>> ((nI (8 * t) : Int32).toUInt32 &&& Int32.toUInt32 31)).toInt32) hx hb d_M_solve_26 rfl ?_
        refine lv_sipush (v := 255) hx hb d_M_solve_27 (by decide) ?_
        refine lv_iand hx hb d_M_solve_30 ?_
        refine k_top (nI (ln t bw)) (by exact ln_row (by omega) bw) ?_
        refine lv_istore (lv' := [(7, .int (nI (ln t bw))), (6, .int (nI (ln t aw))), (0, .int (nI i0)), (1, .int (nI j0)), (2, .int aw), (3, .int bw), (4, .int (slO i0 j0 aw bw t)), (5, .int (nI (8 * t)))]) hx hb d_M_solve_31 hl (by decide) rfl (fun ls hl => ?_)
        refine lv_iconst (v := 0) hx hb d_M_solve_33 (by decide) ?_
        refine lv_istore (lv' := [(8, .int 0), (7, .int (nI (ln t bw))), (6, .int (nI (ln t aw))), (0, .int (nI i0)), (1, .int (nI j0)), (2, .int aw), (3, .int bw), (4, .int (slO i0 j0 aw bw t)), (5, .int (nI (8 * t)))]) hx hb d_M_solve_34 hl (by decide) rfl (fun ls hl => ?_)
        have L36 : ∀ (k : Nat) (x : Nat) (ls : Array Slot), x + k = 256 → lv_has ls 10 [(0, .int (nI i0)), (1, .int (nI j0)), (2, .int aw), (3, .int bw), (4, .int (slL i0 j0 aw bw t (slO i0 j0 aw bw t) x)), (5, .int (nI (8 * t))), (6, .int (nI (ln t aw))), (7, .int (nI (ln t bw))), (8, .int (nI x))] → W p l e (headSpec w_M_solve ({ frames := 1, cells := 0, slots := 0, locals := 23 })).room s m ([.int (nI i0), .int (nI j0), .int aw, .int bw] : List Value).toArray below meth c s.heap [] 0 0 (MQ below (k_Ro (some (.int (slO i0 j0 aw bw 4)))) ([.int (nI i0), .int (nI j0), .int aw, .int bw] : List Value).toArray s 0 0 (fun _ => False)) (F0 m 36 ls []) := by
          intro k
          induction k with
          | zero =>
            intro x ls hk hl
            obtain rfl : 256 = x := by omega
            refine lv_iload hx hb d_M_solve_36 (lv_at hl 8 rfl) ?_
            refine lv_sipush (v := 256) hx hb d_M_solve_38 (by decide) ?_
            refine lv_icmp_ge (tgt := 89) hx hb d_M_solve_41 rfl (fun g41 => ?_) (fun g41 => ?_)
            · have h41 : 256 ≤ 256 := (nI_leI (a := 256) (b := 256) (by omega) (by omega)).mp g41
              have k41 : ¬ 256 < 256 := by omega
              refine lv_iinc (k := 5) (v := nI (8 * t + 8)) (lv' := [(5, .int (nI (8 * t + 8))), (0, .int (nI i0)), (1, .int (nI j0)), (2, .int aw), (3, .int bw), (4, .int (slL i0 j0 aw bw t (slO i0 j0 aw bw t) 256)), (6, .int (nI (ln t aw))), (7, .int (nI (ln t bw))), (8, .int (nI 256))]) hx hb d_M_solve_89 hl rfl (nI_add (8 * t) 8) (by decide) rfl (fun ls hl => ?_)
              refine lv_goto hx hb d_M_solve_92 rfl ?_
              have e1 : slO i0 j0 aw bw (t + 1) = slL i0 j0 aw bw t (slO i0 j0 aw bw t) 256 := by first | rfl | (simp [slL, slO, g10, h10, k10, g41, h41, k41]; done) | omega
              have e2 : nI (8 * (t + 1)) = nI (8 * t + 8) := by first | rfl | (simp [slL, slO, g10, h10, k10, g41, h41, k41]; done) | omega
              exact ih (t + 1) ls (by omega) (by rw [e1, e2]; exact lv_sub hl [1, 2, 3, 4, 5, 0] rfl)
            · have h41 : ¬ 256 ≤ 256 := fun q9 => g41 ((nI_leI (a := 256) (b := 256) (by omega) (by omega)).mpr q9)
              have k41 : 256 < 256 := by omega
              exfalso; omega
          | succ k ih =>
            intro x ls hk hl
            refine lv_iload hx hb d_M_solve_36 (lv_at hl 8 rfl) ?_
            refine lv_sipush (v := 256) hx hb d_M_solve_38 (by decide) ?_
            refine lv_icmp_ge (tgt := 89) hx hb d_M_solve_41 rfl (fun g41 => ?_) (fun g41 => ?_)
            · have h41 : 256 ≤ x := (nI_leI (a := 256) (b := x) (by omega) (by omega)).mp g41
              have k41 : ¬ x < 256 := by omega
              exfalso; omega
            · have h41 : ¬ 256 ≤ x := fun q9 => g41 ((nI_leI (a := 256) (b := x) (by omega) (by omega)).mpr q9)
              have k41 : x < 256 := by omega
              refine lv_iload hx hb d_M_solve_44 (lv_at hl 8 rfl) ?_
              refine lv_iload_n hx hb d_M_solve_46 rfl (lv_at hl 0 rfl) ?_
              refine k_roi (va_runS (As := [.int (nI x), .int (nI i0)]) (rest := []) ⟨hx, hb, hml, hown, hts⟩ (c_Model_byteTimes l D x i0 (by omega) (by omega)) (k_cwS 2 hts m_code_M_byteTimes m_ini_M m_l_M_35 m_stat_M_byteTimes h_M_byteTimes rfl rfl ⟨Nat.le_of_ble_eq_true rfl, Nat.le_of_ble_eq_true rfl⟩) (k_s0) rfl rfl hl.1 rfl (lv_room (Nat.le_of_ble_eq_true rfl)) d_M_solve_47 ⟨Nat.zero_le _, Nat.zero_le _⟩) ?_
              have f3 : btN i0 x < 256 := btN_lt _ (by first | omega | exact ln_lt _ _ | exact lt_xor8 (by omega) (ln_lt _ _))
              refine lv_iload hx hb d_M_solve_50 (lv_at hl 8 rfl) ?_
              refine lv_iload hx hb d_M_solve_52 (lv_at hl 6 rfl) ?_
              refine lv_ixor hx hb d_M_solve_54 ?_
              refine k_top (nI (x ^^^ (ln t aw))) (nx_xor x (ln t aw)) ?_
              refine lv_iload_n hx hb d_M_solve_55 rfl (lv_at hl 1 rfl) ?_
              refine k_roi (va_runS (As := [.int (nI (x ^^^ (ln t aw))), .int (nI j0)]) (rest := [.int (nI (btN i0 x))]) ⟨hx, hb, hml, hown, hts⟩ (c_Model_byteTimes l D (x ^^^ (ln t aw)) j0 (by exact lt_xor8 (by omega) (ln_lt _ _)) (by omega)) (k_cwS 2 hts m_code_M_byteTimes m_ini_M m_l_M_35 m_stat_M_byteTimes h_M_byteTimes rfl rfl ⟨Nat.le_of_ble_eq_true rfl, Nat.le_of_ble_eq_true rfl⟩) (k_s0) rfl rfl hl.1 rfl (lv_room (Nat.le_of_ble_eq_true rfl)) d_M_solve_56 ⟨Nat.zero_le _, Nat.zero_le _⟩) ?_
              have f4 : btN j0 (x ^^^ (ln t aw)) < 256 := btN_lt _ (by first | omega | exact ln_lt _ _ | exact lt_xor8 (by omega) (ln_lt _ _))
              refine lv_ixor hx hb d_M_solve_59 ?_
              refine k_top (nI ((btN i0 x) ^^^ (btN j0 (x ^^^ (ln t aw))))) (nx_xor (btN i0 x) (btN j0 (x ^^^ (ln t aw)))) ?_
              have hxx := lt_xor8 (btN_lt i0 (show x < 256 by omega)) (btN_lt j0 (lt_xor8 (show x < 256 by omega) (ln_lt t aw)))
              have hlb := ln_lt t bw
              refine lv_istore (lv' := [(9, .int (nI ((btN i0 x) ^^^ (btN j0 (x ^^^ (ln t aw)))))), (0, .int (nI i0)), (1, .int (nI j0)), (2, .int aw), (3, .int bw), (4, .int (slL i0 j0 aw bw t (slO i0 j0 aw bw t) x)), (5, .int (nI (8 * t))), (6, .int (nI (ln t aw))), (7, .int (nI (ln t bw))), (8, .int (nI x))]) hx hb d_M_solve_60 hl (by decide) rfl (fun ls hl => ?_)
              refine lv_iload hx hb d_M_solve_62 (lv_at hl 5 rfl) ?_
              refine lv_iload hx hb d_M_solve_64 (lv_at hl 0 rfl) ?_
              refine lv_iload hx hb d_M_solve_66 (lv_at hl 8 rfl) ?_
              refine lv_icmp_ne (tgt := 79) hx hb d_M_solve_68 rfl (fun g68 => ?_) (fun g68 => ?_)
              · have h68 : ¬ ((btN i0 x) ^^^ (btN j0 (x ^^^ (ln t aw)))) = (ln t bw) := fun q9 => g68 ((nI_eq (a := (btN i0 x) ^^^ (btN j0 (x ^^^ (ln t aw)))) (b := ln t bw) (by omega) (by omega)).mpr q9)
                refine lv_iconst (v := 0) hx hb d_M_solve_79 (by decide) ?_
                refine lv_ior hx hb d_M_solve_80 ?_
                refine lv_istore (lv' := [(4, .int ((slL i0 j0 aw bw t (slO i0 j0 aw bw t) x) ||| 0)), (9, .int (nI ((btN i0 x) ^^^ (btN j0 (x ^^^ (ln t aw)))))), (0, .int (nI i0)), (1, .int (nI j0)), (2, .int aw), (3, .int bw), (5, .int (nI (8 * t))), (6, .int (nI (ln t aw))), (7, .int (nI (ln t bw))), (8, .int (nI x))]) hx hb d_M_solve_81 hl (by decide) rfl (fun ls hl => ?_)
                refine lv_iinc (k := 9) (v := nI (x + 1)) (lv' := [(8, .int (nI (x + 1))), (4, .int ((slL i0 j0 aw bw t (slO i0 j0 aw bw t) x) ||| 0)), (9, .int (nI ((btN i0 x) ^^^ (btN j0 (x ^^^ (ln t aw)))))), (0, .int (nI i0)), (1, .int (nI j0)), (2, .int aw), (3, .int bw), (5, .int (nI (8 * t))), (6, .int (nI (ln t aw))), (7, .int (nI (ln t bw)))]) hx hb d_M_solve_83 hl rfl (nI_add x 1) (by decide) rfl (fun ls hl => ?_)
                refine lv_goto hx hb d_M_solve_86 rfl ?_
                have e5 : slL i0 j0 aw bw t (slO i0 j0 aw bw t) (x + 1) = (slL i0 j0 aw bw t (slO i0 j0 aw bw t) x) ||| 0 := by first | rfl | (show _ ||| (if _ then _ else _) = _; first | rw [if_pos h68] | rw [if_neg h68])
                exact ih (x + 1) ls (by omega) (by rw [e5]; exact lv_sub hl [3, 4, 5, 6, 1, 7, 8, 9, 0] rfl)
              · have h68 : ((btN i0 x) ^^^ (btN j0 (x ^^^ (ln t aw)))) = (ln t bw) := (nI_eq (a := (btN i0 x) ^^^ (btN j0 (x ^^^ (ln t aw)))) (b := ln t bw) (by omega) (by omega)).mp g68
                refine lv_iload hx hb d_M_solve_71 (lv_at hl 9 rfl) ?_
                refine lv_iload hx hb d_M_solve_73 (lv_at hl 6 rfl) ?_
                refine lv_ishl hx hb d_M_solve_75 ?_
                refine lv_goto hx hb d_M_solve_76 rfl ?_
                refine lv_ior hx hb d_M_solve_80 ?_
                refine lv_istore (lv' := [(4, .int ((slL i0 j0 aw bw t (slO i0 j0 aw bw t) x) ||| ((nI x) <<< ((nI (8 * t)) &&& 31)))), (9, .int (nI ((btN i0 x) ^^^ (btN j0 (x ^^^ (ln t aw)))))), (0, .int (nI i0)), (1, .int (nI j0)), (2, .int aw), (3, .int bw), (5, .int (nI (8 * t))), (6, .int (nI (ln t aw))), (7, .int (nI (ln t bw))), (8, .int (nI x))]) hx hb d_M_solve_81 hl (by decide) rfl (fun ls hl => ?_)
                refine lv_iinc (k := 9) (v := nI (x + 1)) (lv' := [(8, .int (nI (x + 1))), (4, .int ((slL i0 j0 aw bw t (slO i0 j0 aw bw t) x) ||| ((nI x) <<< ((nI (8 * t)) &&& 31)))), (9, .int (nI ((btN i0 x) ^^^ (btN j0 (x ^^^ (ln t aw)))))), (0, .int (nI i0)), (1, .int (nI j0)), (2, .int aw), (3, .int bw), (5, .int (nI (8 * t))), (6, .int (nI (ln t aw))), (7, .int (nI (ln t bw)))]) hx hb d_M_solve_83 hl rfl (nI_add x 1) (by decide) rfl (fun ls hl => ?_)
                refine lv_goto hx hb d_M_solve_86 rfl ?_
                have e6 : slL i0 j0 aw bw t (slO i0 j0 aw bw t) (x + 1) = (slL i0 j0 aw bw t (slO i0 j0 aw bw t) x) ||| ((nI x) <<< ((nI (8 * t)) &&& 31)) := by first | rfl | (show _ ||| (if _ then _ else _) = _; first | rw [if_pos h68] | rw [if_neg h68])
                exact ih (x + 1) ls (by omega) (by rw [e6]; exact lv_sub hl [3, 4, 5, 6, 1, 7, 8, 9, 0] rfl)
        have e7 : slL i0 j0 aw bw t (slO i0 j0 aw bw t) 0 = slO i0 j0 aw bw t := by first | rfl | (show _ ||| (if _ then _ else _) = _; first | rw [if_pos h68] | rw [if_neg h68])
        have e8 : nI 0 = 0 := by first | rfl | (simp [slL, slO, g10, h10, k10]; done) | omega
        exact L36 256 0 ls (by omega) (by rw [e7, e8]; exact lv_sub hl [3, 4, 5, 6, 7, 8, 2, 1, 0] rfl)
  have e9 : slO i0 j0 aw bw 0 = 0 := by first | rfl | (simp [slL, slO]; done) | omega
  have e10 : nI (8 * 0) = 0 := by first | rfl | (simp [slL, slO]; done) | omega
  exact L6 4 0 ls (by omega) (by rw [e9, e10]; exact lv_sub hl [2, 3, 4, 5, 1, 0] rfl)
set_option maxHeartbeats 4000000 in
set_option maxRecDepth 100000 in
theorem c_Model_diskOf (l : Launch) (D : va_G) (cA : ClassId) (q : Nat → Nat) (N S : Nat) (z : RS) (gN4 : 4 ≤ N) (gN : N ≤ 10) (gS1 : 1 ≤ S) (gS : S ≤ 16) (a b : Nat) (ha : a < 10) (hb1 : b < S) : Met l y_M_diskOf w_M_diskOf ({ frames := 0, cells := 0, slots := 0, locals := 0 }) (va_Pc [.ref (q 0), .int (nI a), .int (nI b)] (k_R D [(cA, .int)] (wM cA q N S z))) (k_Ro (some (.int (nI (rdk N a b))))) 0 0 (fun _ => False) := by
  refine Met.ofW (cc := b_M_diskOf) (maxL := 4) (ret := (some .int)) (by decide) rfl ?_
  intro p e s m args below meth c s₁ B hml hv
  obtain ⟨rfl, hP, hK⟩ := hv
  have hx := B.exec
  have hb := B.bytes
  have hr := B.returns
  have hts0 := atoms_spec (ws := w_M_diskOf) B.pre
  have hts : ∀ w ∈ lw_g, w.before _ s = true := fun w h => hts0 w (List.mem_cons_of_mem _ h)
  have hown : s.vm.findClass R_M = some m.cls := findClass_of_methodNamed B.named
  have hlocks := B.notSynchronized
  have hl := lv_entry ([.ref (q 0), .int (nI a), .int (nI b)]) (n := 4) (Nat.le_of_ble_eq_true rfl)
  rw [lg_entry_eq]
  generalize (lg_sl ([.ref (q 0), .int (nI a), .int (nI b)]) ++ List.replicate (4 - (lg_sl ([.ref (q 0), .int (nI a), .int (nI b)])).length) Slot.unset).toArray = ls at hl ⊢
  have hl : lv_has ls 4 [(0, .ref (q 0)), (1, .int (nI a)), (2, .int (nI b))] := hl
  have hm : b % N < N := Nat.mod_lt b (by omega)
  refine lv_aload_n hx hb d_M_diskOf_0 rfl (lv_at hl 0 rfl) ?_
  refine va_get (D := D) (ci := 4) (v := .int (nI N)) (C := R_M) (T := T_M) (N := 16) hx hb hts (in_M) hown hK hP 0 rfl rfl 0 (by decide) (hts _ m_f_M_26) (fun _ h9 => h9) rfl d_M_diskOf_1 ?_
  refine lv_iconst (v := 1) hx hb d_M_diskOf_4 (by decide) ?_
  refine lv_isub hx hb d_M_diskOf_5 ?_
  refine k_top (nI (N - 1)) (pk_sub (a := N) (b := 1) (by omega)) ?_
  refine lv_iload_n hx hb d_M_diskOf_6 rfl (lv_at hl 2 rfl) ?_
  refine lv_aload_n hx hb d_M_diskOf_7 rfl (lv_at hl 0 rfl) ?_
  refine va_get (D := D) (ci := 4) (v := .int (nI N)) (C := R_M) (T := T_M) (N := 16) hx hb hts (in_M) hown hK hP 0 rfl rfl 0 (by decide) (hts _ m_f_M_26) (fun _ h9 => h9) rfl d_M_diskOf_8 ?_
  refine lv_irem hx hb d_M_diskOf_11 (nI_ne0 (by omega) (by omega)) ?_
  refine k_top (nI (b % N)) (pk_rem (a := b) (d := N) (by omega) (by omega) (by omega)) ?_
  refine lv_isub hx hb d_M_diskOf_12 ?_
  refine k_top (nI (N - 1 - (b % N))) (pk_sub (a := N - 1) (b := b % N) (by omega)) ?_
  refine lv_istore_n (lv' := [(3, .int (nI (N - 1 - (b % N)))), (0, .ref (q 0)), (1, .int (nI a)), (2, .int (nI b))]) hx hb d_M_diskOf_13 rfl hl (by decide) rfl (fun ls hl => ?_)
  refine lv_iload_n hx hb d_M_diskOf_14 rfl (lv_at hl 2 rfl) ?_
  refine lv_bipush (v := 8) hx hb d_M_diskOf_15 (by decide) ?_
  refine lv_icmp_ne (tgt := 24) hx hb d_M_diskOf_17 rfl (fun g17 => ?_) (fun g17 => ?_)
  · have h17 : ¬ a = 8 := fun q9 => g17 ((nI_eq (a := a) (b := 8) (by omega) (by omega)).mpr q9)
    refine lv_iload_n hx hb d_M_diskOf_24 rfl (lv_at hl 2 rfl) ?_
    refine lv_bipush (v := 9) hx hb d_M_diskOf_25 (by decide) ?_
    refine lv_icmp_ne (tgt := 41) hx hb d_M_diskOf_27 rfl (fun g27 => ?_) (fun g27 => ?_)
    · have h27 : ¬ a = 9 := fun q9 => g27 ((nI_eq (a := a) (b := 9) (by omega) (by omega)).mpr q9)
      refine lv_iload_n hx hb d_M_diskOf_41 rfl (lv_at hl 0 rfl) ?_
      refine lv_iconst (v := 2) hx hb d_M_diskOf_42 (by decide) ?_
      refine lv_iadd hx hb d_M_diskOf_43 ?_
      refine k_top (nI (N - 1 - (b % N) + 2)) (nI_add (N - 1 - (b % N)) 2) ?_
      refine lv_iload_n hx hb d_M_diskOf_44 rfl (lv_at hl 2 rfl) ?_
      refine lv_iadd hx hb d_M_diskOf_45 ?_
      refine k_top (nI (N - 1 - (b % N) + 2 + a)) (nI_add (N - 1 - (b % N) + 2) a) ?_
      refine lv_aload_n hx hb d_M_diskOf_46 rfl (lv_at hl 1 rfl) ?_
      refine va_get (D := D) (ci := 4) (v := .int (nI N)) (C := R_M) (T := T_M) (N := 16) hx hb hts (in_M) hown hK hP 0 rfl rfl 0 (by decide) (hts _ m_f_M_26) (fun _ h9 => h9) rfl d_M_diskOf_47 ?_
      refine lv_irem hx hb d_M_diskOf_50 (nI_ne0 (by omega) (by omega)) ?_
      refine k_top (nI ((N - 1 - (b % N) + 2 + a) % N)) (pk_rem (a := N - 1 - (b % N) + 2 + a) (d := N) (by omega) (by omega) (by omega)) ?_
      refine k_top (nI (rdk N a b)) (by first | ((try unfold rdk); (repeat (first | rw [if_pos g17] | rw [if_neg g17] | rw [if_pos h17] | rw [if_neg h17] | rw [if_pos g27] | rw [if_neg g27] | rw [if_pos h27] | rw [if_neg h27] | rw [rRV_n2] | rw [rRA_n] | rw [if_pos (rfl : (0 : Int32) = 0)] | rw [if_neg (show ¬ (-2 : Int32) = 0 by decide)] | rw [if_neg (show ¬ (-3 : Int32) = 0 by decide)] | rw [if_neg (show ¬ true = false by decide)] | rw [if_pos (show false = false from rfl)] | dsimp only)); first | done | rfl) | rfl) ?_
      exact W.iret (v := nI (rdk N a b)) hx hb hr (fun t ht hW => ⟨rfl, ht⟩) (fun _ h => by cases h) d_M_diskOf_51
    · have h27 : a = 9 := (nI_eq (a := a) (b := 9) (by omega) (by omega)).mp g27
      refine lv_iload_n hx hb d_M_diskOf_30 rfl (lv_at hl 0 rfl) ?_
      refine lv_iconst (v := 1) hx hb d_M_diskOf_31 (by decide) ?_
      refine lv_iadd hx hb d_M_diskOf_32 ?_
      refine k_top (nI (N - 1 - (b % N) + 1)) (nI_add (N - 1 - (b % N)) 1) ?_
      refine lv_aload_n hx hb d_M_diskOf_33 rfl (lv_at hl 1 rfl) ?_
      refine va_get (D := D) (ci := 4) (v := .int (nI N)) (C := R_M) (T := T_M) (N := 16) hx hb hts (in_M) hown hK hP 0 rfl rfl 0 (by decide) (hts _ m_f_M_26) (fun _ h9 => h9) rfl d_M_diskOf_34 ?_
      refine lv_irem hx hb d_M_diskOf_37 (nI_ne0 (by omega) (by omega)) ?_
      refine k_top (nI ((N - 1 - (b % N) + 1) % N)) (pk_rem (a := N - 1 - (b % N) + 1) (d := N) (by omega) (by omega) (by omega)) ?_
      refine lv_goto hx hb d_M_diskOf_38 rfl ?_
      refine k_top (nI (rdk N a b)) (by first | ((try unfold rdk); (repeat (first | rw [if_pos g17] | rw [if_neg g17] | rw [if_pos h17] | rw [if_neg h17] | rw [if_pos g27] | rw [if_neg g27] | rw [if_pos h27] | rw [if_neg h27] | rw [rRV_n2] | rw [rRA_n] | rw [if_pos (rfl : (0 : Int32) = 0)] | rw [if_neg (show ¬ (-2 : Int32) = 0 by decide)] | rw [if_neg (show ¬ (-3 : Int32) = 0 by decide)] | rw [if_neg (show ¬ true = false by decide)] | rw [if_pos (show false = false from rfl)] | dsimp only)); first | done | rfl) | rfl) ?_
      exact W.iret (v := nI (rdk N a b)) hx hb hr (fun t ht hW => ⟨rfl, ht⟩) (fun _ h => by cases h) d_M_diskOf_51
  · have h17 : a = 8 := (nI_eq (a := a) (b := 8) (by omega) (by omega)).mp g17
    refine lv_iload_n hx hb d_M_diskOf_20 rfl (lv_at hl 0 rfl) ?_
    refine lv_goto hx hb d_M_diskOf_21 rfl ?_
    refine k_top (nI (rdk N a b)) (by first | ((try unfold rdk); (repeat (first | rw [if_pos g17] | rw [if_neg g17] | rw [if_pos h17] | rw [if_neg h17] | rw [rRV_n2] | rw [rRA_n] | rw [if_pos (rfl : (0 : Int32) = 0)] | rw [if_neg (show ¬ (-2 : Int32) = 0 by decide)] | rw [if_neg (show ¬ (-3 : Int32) = 0 by decide)] | rw [if_neg (show ¬ true = false by decide)] | rw [if_pos (show false = false from rfl)] | dsimp only)); first | done | rfl) | rfl) ?_
    exact W.iret (v := nI (rdk N a b)) hx hb hr (fun t ht hW => ⟨rfl, ht⟩) (fun _ h => by cases h) d_M_diskOf_51
set_option maxHeartbeats 4000000 in
set_option maxRecDepth 100000 in
theorem c_Model_has (l : Launch) (D : va_G) (cA : ClassId) (q : Nat → Nat) (N S : Nat) (z : RS) (gN4 : 4 ≤ N) (gN : N ≤ 10) (gS1 : 1 ≤ S) (gS : S ≤ 16) (a b : Nat) (ha : a < 10) (hb1 : b < S) : Met l y_M_has w_M_has ({ frames := 1, cells := 0, slots := 0, locals := 23 }) (va_Pc [.ref (q 0), .int (nI a), .int (nI b)] (k_R D [(cA, .int)] (wM cA q N S z))) (k_Ro (some (.int (bi (decide (nI b < rP z (rdk N a b))))))) 0 0 (fun _ => False) := by
  refine Met.ofW (cc := b_M_has) (maxL := 3) (ret := (some .boolean)) (by decide) rfl ?_
  intro p e s m args below meth c s₁ B hml hv
  obtain ⟨rfl, hP, hK⟩ := hv
  have hx := B.exec
  have hb := B.bytes
  have hr := B.returns
  have hts0 := atoms_spec (ws := w_M_has) B.pre
  have hts : ∀ w ∈ lw_g, w.before _ s = true := fun w h => hts0 w (List.mem_cons_of_mem _ h)
  have hown : s.vm.findClass R_M = some m.cls := findClass_of_methodNamed B.named
  have hlocks := B.notSynchronized
  have hl := lv_entry ([.ref (q 0), .int (nI a), .int (nI b)]) (n := 3) (Nat.le_of_ble_eq_true rfl)
  rw [lg_entry_eq]
  generalize (lg_sl ([.ref (q 0), .int (nI a), .int (nI b)]) ++ List.replicate (3 - (lg_sl ([.ref (q 0), .int (nI a), .int (nI b)])).length) Slot.unset).toArray = ls at hl ⊢
  have hl : lv_has ls 3 [(0, .ref (q 0)), (1, .int (nI a)), (2, .int (nI b))] := hl
  refine lv_aload_n hx hb d_M_has_0 rfl (lv_at hl 0 rfl) ?_
  refine va_get (D := D) (ci := 4) (v := .ref (q 2)) (C := R_M) (T := T_M) (N := 16) hx hb hts (in_M) hown hK hP 0 rfl rfl 10 (by decide) (hts _ m_f_M_13) (fun _ h9 => h9) rfl d_M_has_1 ?_
  refine lv_aload_n hx hb d_M_has_4 rfl (lv_at hl 0 rfl) ?_
  refine lv_iload_n hx hb d_M_has_5 rfl (lv_at hl 1 rfl) ?_
  refine lv_iload_n hx hb d_M_has_6 rfl (lv_at hl 2 rfl) ?_
  refine k_roi (va_runV (C := R_M) (As := [.int (nI a), .int (nI b)]) (rest := [.ref (q 2)]) ⟨hx, hb, hml, hown, hts⟩ (c_Model_diskOf l D cA q N S z (by omega) (by omega) (by omega) (by omega) a b (by omega) (by omega)) (k_cwV 2 hts m_code_M_diskOf m_ini_M m_l_M_39 m_inst_M_diskOf m_sel_M_diskOf h_M_diskOf rfl rfl ⟨Nat.le_of_ble_eq_true rfl, Nat.le_of_ble_eq_true rfl⟩) (k_pR hP hK [0, 1, 2, 3, 4] rfl 0 4 rfl rfl) rfl rfl hl.1 rfl (lv_room (Nat.le_of_ble_eq_true rfl)) d_M_has_7 ⟨Nat.zero_le _, Nat.zero_le _⟩) ?_
  have f1 : rdk N a b < N := rdk_lt (by omega)
  refine va_iald (n := 10) (f := rP z) hx hb hK hP 2 0 rfl rfl (vp_in_nI (by omega) (by omega)) d_M_has_10 ?_
  refine k_top ((rP z) (rdk N a b)) (by rw [show (nI (rdk N a b) : Int32).toNatClampNeg = rdk N a b from nI_clamp (n := rdk N a b) (by omega)]) ?_
  refine lv_iload_n hx hb d_M_has_11 rfl (lv_at hl 2 rfl) ?_
  refine lv_icmp_le (tgt := 19) hx hb d_M_has_12 rfl (fun g12 => ?_) (fun g12 => ?_)
  · have h12 := Int32.not_lt.mpr g12
    refine lv_iconst (v := 0) hx hb d_M_has_19 (by decide) ?_
    refine k_top (bi (decide (nI b < rP z (rdk N a b)))) (by rw [decide_eq_false (show ¬ ((nI b < rP z (rdk N a b))) by first | assumption | omega | exact fun z => g12 z.1 | exact fun z => g12 z.2 | exact fun z => z.elim (fun z => by omega) (fun z => g12 z.1) | exact fun z => z.elim (fun z => by omega) (fun z => g12 z.2) | exact fun z => h12 z.1 | exact fun z => h12 z.2 | exact fun z => z.elim (fun z => by omega) (fun z => h12 z.1) | exact fun z => z.elim (fun z => by omega) (fun z => h12 z.2) | (simp [bi, g12, h12]; done))]; rfl) ?_
    exact W.zret (v := bi (decide (nI b < rP z (rdk N a b)))) (ty := .boolean) hx hb hr (bi_n _) (fun t ht hW => ⟨rfl, ht⟩) (fun _ h => by cases h) d_M_has_20
  · have h12 := Int32.not_le.mp g12
    refine lv_iconst (v := 1) hx hb d_M_has_15 (by decide) ?_
    refine lv_goto hx hb d_M_has_16 rfl ?_
    refine k_top (bi (decide (nI b < rP z (rdk N a b)))) (by rw [decide_eq_true (show (nI b < rP z (rdk N a b)) by first | assumption | omega | exact ⟨by assumption, by assumption⟩ | exact ⟨⟨by assumption, by assumption⟩, by assumption⟩ | exact Or.inl (by first | assumption | omega) | exact Or.inr ⟨by assumption, by assumption⟩ | (simp [bi, g12, h12]; done))]; rfl) ?_
    exact W.zret (v := bi (decide (nI b < rP z (rdk N a b)))) (ty := .boolean) hx hb hr (bi_n _) (fun t ht hW => ⟨rfl, ht⟩) (fun _ h => by cases h) d_M_has_20
set_option maxHeartbeats 4000000 in
set_option maxRecDepth 100000 in
theorem c_Model_cellOf (l : Launch) (D : va_G) (cA : ClassId) (q : Nat → Nat) (N S : Nat) (z : RS) (gN4 : 4 ≤ N) (gN : N ≤ 10) (gS1 : 1 ≤ S) (gS : S ≤ 16) (a b : Nat) (ha : a < 10) (hb1 : b < S) : Met l y_M_cellOf w_M_cellOf ({ frames := 1, cells := 0, slots := 0, locals := 23 }) (va_Pc [.ref (q 0), .int (nI a), .int (nI b)] (k_R D [(cA, .int)] (wM cA q N S z))) (k_Ro (some (.int (rW z (16 * rdk N a b + b))))) 0 0 (fun _ => False) := by
  refine Met.ofW (cc := b_M_cellOf) (maxL := 3) (ret := (some .int)) (by decide) rfl ?_
  intro p e s m args below meth c s₁ B hml hv
  obtain ⟨rfl, hP, hK⟩ := hv
  have hx := B.exec
  have hb := B.bytes
  have hr := B.returns
  have hts0 := atoms_spec (ws := w_M_cellOf) B.pre
  have hts : ∀ w ∈ lw_g, w.before _ s = true := fun w h => hts0 w (List.mem_cons_of_mem _ h)
  have hown : s.vm.findClass R_M = some m.cls := findClass_of_methodNamed B.named
  have hlocks := B.notSynchronized
  have hl := lv_entry ([.ref (q 0), .int (nI a), .int (nI b)]) (n := 3) (Nat.le_of_ble_eq_true rfl)
  rw [lg_entry_eq]
  generalize (lg_sl ([.ref (q 0), .int (nI a), .int (nI b)]) ++ List.replicate (3 - (lg_sl ([.ref (q 0), .int (nI a), .int (nI b)])).length) Slot.unset).toArray = ls at hl ⊢
  have hl : lv_has ls 3 [(0, .ref (q 0)), (1, .int (nI a)), (2, .int (nI b))] := hl
  refine lv_aload_n hx hb d_M_cellOf_0 rfl (lv_at hl 0 rfl) ?_
  refine va_get (D := D) (ci := 4) (v := .ref (q 1)) (C := R_M) (T := T_M) (N := 16) hx hb hts (in_M) hown hK hP 0 rfl rfl 9 (by decide) (hts _ m_f_M_7) (fun _ h9 => h9) rfl d_M_cellOf_1 ?_
  refine lv_bipush (v := 16) hx hb d_M_cellOf_4 (by decide) ?_
  refine lv_aload_n hx hb d_M_cellOf_6 rfl (lv_at hl 0 rfl) ?_
  refine lv_iload_n hx hb d_M_cellOf_7 rfl (lv_at hl 1 rfl) ?_
  refine lv_iload_n hx hb d_M_cellOf_8 rfl (lv_at hl 2 rfl) ?_
  refine k_roi (va_runV (C := R_M) (As := [.int (nI a), .int (nI b)]) (rest := [.int 16, .ref (q 1)]) ⟨hx, hb, hml, hown, hts⟩ (c_Model_diskOf l D cA q N S z (by omega) (by omega) (by omega) (by omega) a b (by omega) (by omega)) (k_cwV 2 hts m_code_M_diskOf m_ini_M m_l_M_39 m_inst_M_diskOf m_sel_M_diskOf h_M_diskOf rfl rfl ⟨Nat.le_of_ble_eq_true rfl, Nat.le_of_ble_eq_true rfl⟩) (k_pR hP hK [0, 1, 2, 3, 4] rfl 0 4 rfl rfl) rfl rfl hl.1 rfl (lv_room (Nat.le_of_ble_eq_true rfl)) d_M_cellOf_9 ⟨Nat.zero_le _, Nat.zero_le _⟩) ?_
  have f1 : rdk N a b < N := rdk_lt (by omega)
  refine lv_imul hx hb d_M_cellOf_12 ?_
  refine k_top (nI (16 * (rdk N a b))) (pk_mul 16 (rdk N a b)) ?_
  refine lv_iload_n hx hb d_M_cellOf_13 rfl (lv_at hl 2 rfl) ?_
  refine lv_iadd hx hb d_M_cellOf_14 ?_
  refine k_top (nI (16 * (rdk N a b) + b)) (nI_add (16 * (rdk N a b)) b) ?_
  refine va_iald (n := 160) (f := rW z) hx hb hK hP 1 0 rfl rfl (vp_in_nI (by omega) (by omega)) d_M_cellOf_15 ?_
  refine k_top ((rW z) (16 * (rdk N a b) + b)) (by rw [show (nI (16 * (rdk N a b) + b) : Int32).toNatClampNeg = 16 * (rdk N a b) + b from nI_clamp (n := 16 * (rdk N a b) + b) (by omega)]) ?_
  refine k_top (rW z (16 * rdk N a b + b)) (by first | rfl | (simp []; done) | omega) ?_
  exact W.iret (v := rW z (16 * rdk N a b + b)) hx hb hr (fun t ht hW => ⟨rfl, ht⟩) (fun _ h => by cases h) d_M_cellOf_16
set_option maxHeartbeats 4000000 in
set_option maxRecDepth 100000 in
theorem c_Model_isBlock (l : Launch) (D : va_G) (cA : ClassId) (q : Nat → Nat) (N S : Nat) (z : RS) (gN4 : 4 ≤ N) (gN : N ≤ 10) (gS1 : 1 ≤ S) (gS : S ≤ 16) (x : Int32) : Met l y_M_isBlock w_M_isBlock ({ frames := 0, cells := 0, slots := 0, locals := 0 }) (va_Pc [.ref (q 0), .int x] (k_R D [(cA, .int)] (wM cA q N S z))) (k_Ro (some (.int (bi (decide (¬ x < 0 ∧ ¬ nI (S * (N - 2)) ≤ x)))))) 0 0 (fun _ => False) := by
  refine Met.ofW (cc := b_M_isBlock) (maxL := 2) (ret := (some .boolean)) (by decide) rfl ?_
  intro p e s m args below meth c s₁ B hml hv
  obtain ⟨rfl, hP, hK⟩ := hv
  have hx := B.exec
  have hb := B.bytes
  have hr := B.returns
  have hts0 := atoms_spec (ws := w_M_isBlock) B.pre
  have hts : ∀ w ∈ lw_g, w.before _ s = true := fun w h => hts0 w (List.mem_cons_of_mem _ h)
  have hown : s.vm.findClass R_M = some m.cls := findClass_of_methodNamed B.named
  have hlocks := B.notSynchronized
  have hl := lv_entry ([.ref (q 0), .int x]) (n := 2) (Nat.le_of_ble_eq_true rfl)
  rw [lg_entry_eq]
  generalize (lg_sl ([.ref (q 0), .int x]) ++ List.replicate (2 - (lg_sl ([.ref (q 0), .int x])).length) Slot.unset).toArray = ls at hl ⊢
  have hl : lv_has ls 2 [(0, .ref (q 0)), (1, .int x)] := hl
  refine lv_iload_n hx hb d_M_isBlock_0 rfl (lv_at hl 1 rfl) ?_
  refine lv_if_lt (tgt := 23) hx hb d_M_isBlock_1 rfl (fun g1 => ?_) (fun g1 => ?_)
  · have h1 := Int32.not_le.mpr g1
    refine lv_iconst (v := 0) hx hb d_M_isBlock_23 (by decide) ?_
    refine k_top (bi (decide (¬ x < 0 ∧ ¬ nI (S * (N - 2)) ≤ x))) (by rw [decide_eq_false (show ¬ ((¬ x < 0 ∧ ¬ nI (S * (N - 2)) ≤ x)) by first | assumption | omega | exact fun z => g1 z.1 | exact fun z => g1 z.2 | exact fun z => z.elim (fun z => by omega) (fun z => g1 z.1) | exact fun z => z.elim (fun z => by omega) (fun z => g1 z.2) | exact fun z => h1 z.1 | exact fun z => h1 z.2 | exact fun z => z.elim (fun z => by omega) (fun z => h1 z.1) | exact fun z => z.elim (fun z => by omega) (fun z => h1 z.2) | (simp [bi, g1, h1]; done))]; rfl) ?_
    exact W.zret (v := bi (decide (¬ x < 0 ∧ ¬ nI (S * (N - 2)) ≤ x))) (ty := .boolean) hx hb hr (bi_n _) (fun t ht hW => ⟨rfl, ht⟩) (fun _ h => by cases h) d_M_isBlock_24
  · have h1 := Int32.not_lt.mp g1
    refine lv_iload_n hx hb d_M_isBlock_4 rfl (lv_at hl 1 rfl) ?_
    refine lv_aload_n hx hb d_M_isBlock_5 rfl (lv_at hl 0 rfl) ?_
    refine va_get (D := D) (ci := 4) (v := .int (nI S)) (C := R_M) (T := T_M) (N := 16) hx hb hts (in_M) hown hK hP 0 rfl rfl 1 (by decide) (hts _ m_f_M_29) (fun _ h9 => h9) rfl d_M_isBlock_6 ?_
    refine lv_aload_n hx hb d_M_isBlock_9 rfl (lv_at hl 0 rfl) ?_
    refine va_get (D := D) (ci := 4) (v := .int (nI N)) (C := R_M) (T := T_M) (N := 16) hx hb hts (in_M) hown hK hP 0 rfl rfl 0 (by decide) (hts _ m_f_M_26) (fun _ h9 => h9) rfl d_M_isBlock_10 ?_
    refine lv_iconst (v := 2) hx hb d_M_isBlock_13 (by decide) ?_
    refine lv_isub hx hb d_M_isBlock_14 ?_
    refine k_top (nI (N - 2)) (pk_sub (a := N) (b := 2) (by omega)) ?_
    refine lv_imul hx hb d_M_isBlock_15 ?_
    refine k_top (nI (S * (N - 2))) (pk_mul S (N - 2)) ?_
    refine lv_icmp_ge (tgt := 23) hx hb d_M_isBlock_16 rfl (fun g16 => ?_) (fun g16 => ?_)
    · have h16 := Int32.not_lt.mpr g16
      refine lv_iconst (v := 0) hx hb d_M_isBlock_23 (by decide) ?_
      refine k_top (bi (decide (¬ x < 0 ∧ ¬ nI (S * (N - 2)) ≤ x))) (by rw [decide_eq_false (show ¬ ((¬ x < 0 ∧ ¬ nI (S * (N - 2)) ≤ x)) by first | assumption | omega | exact fun z => g1 z.1 | exact fun z => g1 z.2 | exact fun z => z.elim (fun z => by omega) (fun z => g1 z.1) | exact fun z => z.elim (fun z => by omega) (fun z => g1 z.2) | exact fun z => h1 z.1 | exact fun z => h1 z.2 | exact fun z => z.elim (fun z => by omega) (fun z => h1 z.1) | exact fun z => z.elim (fun z => by omega) (fun z => h1 z.2) | exact fun z => g16 z.1 | exact fun z => g16 z.2 | exact fun z => z.elim (fun z => by omega) (fun z => g16 z.1) | exact fun z => z.elim (fun z => by omega) (fun z => g16 z.2) | exact fun z => h16 z.1 | exact fun z => h16 z.2 | exact fun z => z.elim (fun z => by omega) (fun z => h16 z.1) | exact fun z => z.elim (fun z => by omega) (fun z => h16 z.2) | (simp [bi, g1, h1, g16, h16]; done))]; rfl) ?_
      exact W.zret (v := bi (decide (¬ x < 0 ∧ ¬ nI (S * (N - 2)) ≤ x))) (ty := .boolean) hx hb hr (bi_n _) (fun t ht hW => ⟨rfl, ht⟩) (fun _ h => by cases h) d_M_isBlock_24
    · have h16 := Int32.not_le.mp g16
      refine lv_iconst (v := 1) hx hb d_M_isBlock_19 (by decide) ?_
      refine lv_goto hx hb d_M_isBlock_20 rfl ?_
      refine k_top (bi (decide (¬ x < 0 ∧ ¬ nI (S * (N - 2)) ≤ x))) (by rw [decide_eq_true (show (¬ x < 0 ∧ ¬ nI (S * (N - 2)) ≤ x) by first | assumption | omega | exact ⟨by assumption, by assumption⟩ | exact ⟨⟨by assumption, by assumption⟩, by assumption⟩ | exact Or.inl (by first | assumption | omega) | exact Or.inr ⟨by assumption, by assumption⟩ | (simp [bi, g1, h1, g16, h16]; done))]; rfl) ?_
      exact W.zret (v := bi (decide (¬ x < 0 ∧ ¬ nI (S * (N - 2)) ≤ x))) (ty := .boolean) hx hb hr (bi_n _) (fun t ht hW => ⟨rfl, ht⟩) (fun _ h => by cases h) d_M_isBlock_24
set_option maxHeartbeats 4000000 in
set_option maxRecDepth 100000 in
theorem c_Model_broken (l : Launch) (D : va_G) (cA : ClassId) (q : Nat → Nat) (N S : Nat) (z : RS) (gN4 : 4 ≤ N) (gN : N ≤ 10) (gS1 : 1 ≤ S) (gS : S ≤ 16) : Met l y_M_broken w_M_broken ({ frames := 0, cells := 0, slots := 0, locals := 0 }) (va_Pc [.ref (q 0)] (k_R D [(cA, .int)] (wM cA q N S z))) (k_Ro (some (.int (bi (decide (2 < cntB (rP z) (nI S) N)))))) 0 0 (fun _ => False) := by
  refine Met.ofW (cc := b_M_broken) (maxL := 3) (ret := (some .boolean)) (by decide) rfl ?_
  intro p e s m args below meth c s₁ B hml hv
  obtain ⟨rfl, hP, hK⟩ := hv
  have hx := B.exec
  have hb := B.bytes
  have hr := B.returns
  have hts0 := atoms_spec (ws := w_M_broken) B.pre
  have hts : ∀ w ∈ lw_g, w.before _ s = true := fun w h => hts0 w (List.mem_cons_of_mem _ h)
  have hown : s.vm.findClass R_M = some m.cls := findClass_of_methodNamed B.named
  have hlocks := B.notSynchronized
  have hl := lv_entry ([.ref (q 0)]) (n := 3) (Nat.le_of_ble_eq_true rfl)
  rw [lg_entry_eq]
  generalize (lg_sl ([.ref (q 0)]) ++ List.replicate (3 - (lg_sl ([.ref (q 0)])).length) Slot.unset).toArray = ls at hl ⊢
  have hl : lv_has ls 3 [(0, .ref (q 0))] := hl
  refine lv_iconst (v := 0) hx hb d_M_broken_0 (by decide) ?_
  refine lv_istore_n (lv' := [(1, .int 0), (0, .ref (q 0))]) hx hb d_M_broken_1 rfl hl (by decide) rfl (fun ls hl => ?_)
  refine lv_iconst (v := 0) hx hb d_M_broken_2 (by decide) ?_
  refine lv_istore_n (lv' := [(2, .int 0), (1, .int 0), (0, .ref (q 0))]) hx hb d_M_broken_3 rfl hl (by decide) rfl (fun ls hl => ?_)
  have L4 : ∀ (k : Nat) (i : Nat) (ls : Array Slot), i + k = N → lv_has ls 3 [(0, .ref (q 0)), (1, .int (nI (cntB (rP z) (nI S) i))), (2, .int (nI i))] → W p l e (headSpec w_M_broken ({ frames := 0, cells := 0, slots := 0, locals := 0 })).room s m ([.ref (q 0)] : List Value).toArray below meth c s.heap [] 0 0 (MQ below (k_Ro (some (.int (bi (decide (2 < cntB (rP z) (nI S) N)))))) ([.ref (q 0)] : List Value).toArray s 0 0 (fun _ => False)) (F0 m 4 ls []) := by
    intro k
    induction k with
    | zero =>
      intro i ls hk hl
      obtain rfl : N = i := by omega
      have hcb := cntB_le (rP z) (nI S) N
      refine lv_iload_n hx hb d_M_broken_4 rfl (lv_at hl 2 rfl) ?_
      refine lv_aload_n hx hb d_M_broken_5 rfl (lv_at hl 0 rfl) ?_
      refine va_get (D := D) (ci := 4) (v := .int (nI N)) (C := R_M) (T := T_M) (N := 16) hx hb hts (in_M) hown hK hP 0 rfl rfl 0 (by decide) (hts _ m_f_M_26) (fun _ h9 => h9) rfl d_M_broken_6 ?_
      refine lv_icmp_ge (tgt := 39) hx hb d_M_broken_9 rfl (fun g9 => ?_) (fun g9 => ?_)
      · have h9 : N ≤ N := (nI_leI (a := N) (b := N) (by omega) (by omega)).mp g9
        have k9 : ¬ N < N := by omega
        refine lv_iload_n hx hb d_M_broken_39 rfl (lv_at hl 1 rfl) ?_
        refine lv_iconst (v := 3) hx hb d_M_broken_40 (by decide) ?_
        refine lv_icmp_lt (tgt := 48) hx hb d_M_broken_41 rfl (fun g41 => ?_) (fun g41 => ?_)
        · have h41 : (cntB (rP z) (nI S) N) < 3 := (nI_ltI (a := cntB (rP z) (nI S) N) (b := 3) (by omega) (by omega)).mp g41
          have k41 : ¬ 3 ≤ (cntB (rP z) (nI S) N) := by omega
          refine lv_iconst (v := 0) hx hb d_M_broken_48 (by decide) ?_
          refine k_top (bi (decide (2 < cntB (rP z) (nI S) N))) (by rw [decide_eq_false (show ¬ ((2 < cntB (rP z) (nI S) N)) by first | assumption | omega | exact fun z => g9 z.1 | exact fun z => g9 z.2 | exact fun z => z.elim (fun z => by omega) (fun z => g9 z.1) | exact fun z => z.elim (fun z => by omega) (fun z => g9 z.2) | exact fun z => h9 z.1 | exact fun z => h9 z.2 | exact fun z => z.elim (fun z => by omega) (fun z => h9 z.1) | exact fun z => z.elim (fun z => by omega) (fun z => h9 z.2) | exact fun z => k9 z.1 | exact fun z => k9 z.2 | exact fun z => z.elim (fun z => by omega) (fun z => k9 z.1) | exact fun z => z.elim (fun z => by omega) (fun z => k9 z.2) | exact fun z => g41 z.1 | exact fun z => g41 z.2 | exact fun z => z.elim (fun z => by omega) (fun z => g41 z.1) | exact fun z => z.elim (fun z => by omega) (fun z => g41 z.2) | exact fun z => h41 z.1 | exact fun z => h41 z.2 | exact fun z => z.elim (fun z => by omega) (fun z => h41 z.1) | exact fun z => z.elim (fun z => by omega) (fun z => h41 z.2) | exact fun z => k41 z.1 | exact fun z => k41 z.2 | exact fun z => z.elim (fun z => by omega) (fun z => k41 z.1) | exact fun z => z.elim (fun z => by omega) (fun z => k41 z.2) | (simp [cntB, bi, g9, h9, k9, g41, h41, k41]; done))]; rfl) ?_
          exact W.zret (v := bi (decide (2 < cntB (rP z) (nI S) N))) (ty := .boolean) hx hb hr (bi_n _) (fun t ht hW => ⟨rfl, ht⟩) (fun _ h => by cases h) d_M_broken_49
        · have h41 : ¬ (cntB (rP z) (nI S) N) < 3 := fun q9 => g41 ((nI_ltI (a := cntB (rP z) (nI S) N) (b := 3) (by omega) (by omega)).mpr q9)
          have k41 : 3 ≤ (cntB (rP z) (nI S) N) := by omega
          refine lv_iconst (v := 1) hx hb d_M_broken_44 (by decide) ?_
          refine lv_goto hx hb d_M_broken_45 rfl ?_
          refine k_top (bi (decide (2 < cntB (rP z) (nI S) N))) (by rw [decide_eq_true (show (2 < cntB (rP z) (nI S) N) by first | assumption | omega | exact ⟨by assumption, by assumption⟩ | exact ⟨⟨by assumption, by assumption⟩, by assumption⟩ | exact Or.inl (by first | assumption | omega) | exact Or.inr ⟨by assumption, by assumption⟩ | (simp [cntB, bi, g9, h9, k9, g41, h41, k41]; done))]; rfl) ?_
          exact W.zret (v := bi (decide (2 < cntB (rP z) (nI S) N))) (ty := .boolean) hx hb hr (bi_n _) (fun t ht hW => ⟨rfl, ht⟩) (fun _ h => by cases h) d_M_broken_49
      · have h9 : ¬ N ≤ N := fun q9 => g9 ((nI_leI (a := N) (b := N) (by omega) (by omega)).mpr q9)
        have k9 : N < N := by omega
        exfalso; omega
    | succ k ih =>
      intro i ls hk hl
      have hcb := cntB_le (rP z) (nI S) i
      refine lv_iload_n hx hb d_M_broken_4 rfl (lv_at hl 2 rfl) ?_
      refine lv_aload_n hx hb d_M_broken_5 rfl (lv_at hl 0 rfl) ?_
      refine va_get (D := D) (ci := 4) (v := .int (nI N)) (C := R_M) (T := T_M) (N := 16) hx hb hts (in_M) hown hK hP 0 rfl rfl 0 (by decide) (hts _ m_f_M_26) (fun _ h9 => h9) rfl d_M_broken_6 ?_
      refine lv_icmp_ge (tgt := 39) hx hb d_M_broken_9 rfl (fun g9 => ?_) (fun g9 => ?_)
      · have h9 : N ≤ i := (nI_leI (a := N) (b := i) (by omega) (by omega)).mp g9
        have k9 : ¬ i < N := by omega
        exfalso; omega
      · have h9 : ¬ N ≤ i := fun q9 => g9 ((nI_leI (a := N) (b := i) (by omega) (by omega)).mpr q9)
        have k9 : i < N := by omega
        refine lv_iload_n hx hb d_M_broken_12 rfl (lv_at hl 1 rfl) ?_
        refine lv_aload_n hx hb d_M_broken_13 rfl (lv_at hl 0 rfl) ?_
        refine va_get (D := D) (ci := 4) (v := .ref (q 2)) (C := R_M) (T := T_M) (N := 16) hx hb hts (in_M) hown hK hP 0 rfl rfl 10 (by decide) (hts _ m_f_M_13) (fun _ h9 => h9) rfl d_M_broken_14 ?_
        refine lv_iload_n hx hb d_M_broken_17 rfl (lv_at hl 2 rfl) ?_
        refine va_iald (n := 10) (f := rP z) hx hb hK hP 2 0 rfl rfl (vp_in_nI (by omega) (by omega)) d_M_broken_18 ?_
        refine k_top ((rP z) i) (by rw [show (nI i : Int32).toNatClampNeg = i from nI_clamp (n := i) (by omega)]) ?_
        refine lv_aload_n hx hb d_M_broken_19 rfl (lv_at hl 0 rfl) ?_
        refine va_get (D := D) (ci := 4) (v := .int (nI S)) (C := R_M) (T := T_M) (N := 16) hx hb hts (in_M) hown hK hP 0 rfl rfl 1 (by decide) (hts _ m_f_M_29) (fun _ h9 => h9) rfl d_M_broken_20 ?_
        refine lv_icmp_ge (tgt := 30) hx hb d_M_broken_23 rfl (fun g23 => ?_) (fun g23 => ?_)
        · have h23 := Int32.not_lt.mpr g23
          refine lv_iconst (v := 0) hx hb d_M_broken_30 (by decide) ?_
          refine lv_iadd hx hb d_M_broken_31 ?_
          refine k_top (nI (cntB (rP z) (nI S) i + 0)) (nI_add (cntB (rP z) (nI S) i) 0) ?_
          refine lv_istore_n (lv' := [(1, .int (nI (cntB (rP z) (nI S) i + 0))), (0, .ref (q 0)), (2, .int (nI i))]) hx hb d_M_broken_32 rfl hl (by decide) rfl (fun ls hl => ?_)
          refine lv_iinc (k := 2) (v := nI (i + 1)) (lv' := [(2, .int (nI (i + 1))), (1, .int (nI (cntB (rP z) (nI S) i + 0))), (0, .ref (q 0))]) hx hb d_M_broken_33 hl rfl (nI_add i 1) (by decide) rfl (fun ls hl => ?_)
          refine lv_goto hx hb d_M_broken_36 rfl ?_
          have e1 : nI (cntB (rP z) (nI S) (i + 1)) = nI (cntB (rP z) (nI S) i + 0) := by first | rfl | (simp [cntB, bi, g9, h9, k9, g23, h23]; done) | omega
          exact ih (i + 1) ls (by omega) (by rw [e1]; exact lv_sub hl [2, 1, 0] rfl)
        · have h23 := Int32.not_le.mp g23
          refine lv_iconst (v := 1) hx hb d_M_broken_26 (by decide) ?_
          refine lv_goto hx hb d_M_broken_27 rfl ?_
          refine lv_iadd hx hb d_M_broken_31 ?_
          refine k_top (nI (cntB (rP z) (nI S) i + 1)) (nI_add (cntB (rP z) (nI S) i) 1) ?_
          refine lv_istore_n (lv' := [(1, .int (nI (cntB (rP z) (nI S) i + 1))), (0, .ref (q 0)), (2, .int (nI i))]) hx hb d_M_broken_32 rfl hl (by decide) rfl (fun ls hl => ?_)
          refine lv_iinc (k := 2) (v := nI (i + 1)) (lv' := [(2, .int (nI (i + 1))), (1, .int (nI (cntB (rP z) (nI S) i + 1))), (0, .ref (q 0))]) hx hb d_M_broken_33 hl rfl (nI_add i 1) (by decide) rfl (fun ls hl => ?_)
          refine lv_goto hx hb d_M_broken_36 rfl ?_
          have e2 : nI (cntB (rP z) (nI S) (i + 1)) = nI (cntB (rP z) (nI S) i + 1) := by first | rfl | (simp [cntB, bi, g9, h9, k9, g23, h23]; done) | omega
          exact ih (i + 1) ls (by omega) (by rw [e2]; exact lv_sub hl [2, 1, 0] rfl)
  have e3 : nI (cntB (rP z) (nI S) 0) = 0 := by first | rfl | (simp [cntB, bi]; done) | omega
  have e4 : nI 0 = 0 := by first | rfl | (simp [cntB, bi]; done) | omega
  exact L4 N 0 ls (by omega) (by rw [e3, e4]; exact lv_sub hl [2, 1, 0] rfl)
set_option maxHeartbeats 4000000 in
set_option maxRecDepth 100000 in
theorem c_Model_availableIn (l : Launch) (D : va_G) (cA : ClassId) (q : Nat → Nat) (N S : Nat) (z : RS) (gN4 : 4 ≤ N) (gN : N ≤ 10) (gS1 : 1 ≤ S) (gS : S ≤ 16) (x : Int32) : Met l y_M_availableIn w_M_availableIn ({ frames := 0, cells := 0, slots := 0, locals := 0 }) (va_Pc [.ref (q 0), .int x] (k_R D [(cA, .int)] (wM cA q N S z))) (k_Ro (some (.int (nI (cntA (rP z) x N))))) 0 0 (fun _ => False) := by
  refine Met.ofW (cc := b_M_availableIn) (maxL := 4) (ret := (some .int)) (by decide) rfl ?_
  intro p e s m args below meth c s₁ B hml hv
  obtain ⟨rfl, hP, hK⟩ := hv
  have hx := B.exec
  have hb := B.bytes
  have hr := B.returns
  have hts0 := atoms_spec (ws := w_M_availableIn) B.pre
  have hts : ∀ w ∈ lw_g, w.before _ s = true := fun w h => hts0 w (List.mem_cons_of_mem _ h)
  have hown : s.vm.findClass R_M = some m.cls := findClass_of_methodNamed B.named
  have hlocks := B.notSynchronized
  have hl := lv_entry ([.ref (q 0), .int x]) (n := 4) (Nat.le_of_ble_eq_true rfl)
  rw [lg_entry_eq]
  generalize (lg_sl ([.ref (q 0), .int x]) ++ List.replicate (4 - (lg_sl ([.ref (q 0), .int x])).length) Slot.unset).toArray = ls at hl ⊢
  have hl : lv_has ls 4 [(0, .ref (q 0)), (1, .int x)] := hl
  refine lv_iconst (v := 0) hx hb d_M_availableIn_0 (by decide) ?_
  refine lv_istore_n (lv' := [(2, .int 0), (0, .ref (q 0)), (1, .int x)]) hx hb d_M_availableIn_1 rfl hl (by decide) rfl (fun ls hl => ?_)
  refine lv_iconst (v := 0) hx hb d_M_availableIn_2 (by decide) ?_
  refine lv_istore_n (lv' := [(3, .int 0), (2, .int 0), (0, .ref (q 0)), (1, .int x)]) hx hb d_M_availableIn_3 rfl hl (by decide) rfl (fun ls hl => ?_)
  have L4 : ∀ (k : Nat) (i : Nat) (ls : Array Slot), i + k = N → lv_has ls 4 [(0, .ref (q 0)), (1, .int x), (2, .int (nI (cntA (rP z) x i))), (3, .int (nI i))] → W p l e (headSpec w_M_availableIn ({ frames := 0, cells := 0, slots := 0, locals := 0 })).room s m ([.ref (q 0), .int x] : List Value).toArray below meth c s.heap [] 0 0 (MQ below (k_Ro (some (.int (nI (cntA (rP z) x N))))) ([.ref (q 0), .int x] : List Value).toArray s 0 0 (fun _ => False)) (F0 m 4 ls []) := by
    intro k
    induction k with
    | zero =>
      intro i ls hk hl
      obtain rfl : N = i := by omega
      refine lv_iload_n hx hb d_M_availableIn_4 rfl (lv_at hl 3 rfl) ?_
      refine lv_aload_n hx hb d_M_availableIn_5 rfl (lv_at hl 0 rfl) ?_
      refine va_get (D := D) (ci := 4) (v := .int (nI N)) (C := R_M) (T := T_M) (N := 16) hx hb hts (in_M) hown hK hP 0 rfl rfl 0 (by decide) (hts _ m_f_M_26) (fun _ h9 => h9) rfl d_M_availableIn_6 ?_
      refine lv_icmp_ge (tgt := 36) hx hb d_M_availableIn_9 rfl (fun g9 => ?_) (fun g9 => ?_)
      · have h9 : N ≤ N := (nI_leI (a := N) (b := N) (by omega) (by omega)).mp g9
        have k9 : ¬ N < N := by omega
        refine lv_iload_n hx hb d_M_availableIn_36 rfl (lv_at hl 2 rfl) ?_
        exact W.iret (v := nI (cntA (rP z) x N)) hx hb hr (fun t ht hW => ⟨rfl, ht⟩) (fun _ h => by cases h) d_M_availableIn_37
      · have h9 : ¬ N ≤ N := fun q9 => g9 ((nI_leI (a := N) (b := N) (by omega) (by omega)).mpr q9)
        have k9 : N < N := by omega
        exfalso; omega
    | succ k ih =>
      intro i ls hk hl
      refine lv_iload_n hx hb d_M_availableIn_4 rfl (lv_at hl 3 rfl) ?_
      refine lv_aload_n hx hb d_M_availableIn_5 rfl (lv_at hl 0 rfl) ?_
      refine va_get (D := D) (ci := 4) (v := .int (nI N)) (C := R_M) (T := T_M) (N := 16) hx hb hts (in_M) hown hK hP 0 rfl rfl 0 (by decide) (hts _ m_f_M_26) (fun _ h9 => h9) rfl d_M_availableIn_6 ?_
      refine lv_icmp_ge (tgt := 36) hx hb d_M_availableIn_9 rfl (fun g9 => ?_) (fun g9 => ?_)
      · have h9 : N ≤ i := (nI_leI (a := N) (b := i) (by omega) (by omega)).mp g9
        have k9 : ¬ i < N := by omega
        exfalso; omega
      · have h9 : ¬ N ≤ i := fun q9 => g9 ((nI_leI (a := N) (b := i) (by omega) (by omega)).mpr q9)
        have k9 : i < N := by omega
        refine lv_iload_n hx hb d_M_availableIn_12 rfl (lv_at hl 2 rfl) ?_
        refine lv_aload_n hx hb d_M_availableIn_13 rfl (lv_at hl 0 rfl) ?_
        refine va_get (D := D) (ci := 4) (v := .ref (q 2)) (C := R_M) (T := T_M) (N := 16) hx hb hts (in_M) hown hK hP 0 rfl rfl 10 (by decide) (hts _ m_f_M_13) (fun _ h9 => h9) rfl d_M_availableIn_14 ?_
        refine lv_iload_n hx hb d_M_availableIn_17 rfl (lv_at hl 3 rfl) ?_
        refine va_iald (n := 10) (f := rP z) hx hb hK hP 2 0 rfl rfl (vp_in_nI (by omega) (by omega)) d_M_availableIn_18 ?_
        refine k_top ((rP z) i) (by rw [show (nI i : Int32).toNatClampNeg = i from nI_clamp (n := i) (by omega)]) ?_
        refine lv_iload_n hx hb d_M_availableIn_19 rfl (lv_at hl 1 rfl) ?_
        refine lv_icmp_le (tgt := 27) hx hb d_M_availableIn_20 rfl (fun g20 => ?_) (fun g20 => ?_)
        · have h20 := Int32.not_lt.mpr g20
          refine lv_iconst (v := 0) hx hb d_M_availableIn_27 (by decide) ?_
          refine lv_iadd hx hb d_M_availableIn_28 ?_
          refine k_top (nI (cntA (rP z) x i + 0)) (nI_add (cntA (rP z) x i) 0) ?_
          refine lv_istore_n (lv' := [(2, .int (nI (cntA (rP z) x i + 0))), (0, .ref (q 0)), (1, .int x), (3, .int (nI i))]) hx hb d_M_availableIn_29 rfl hl (by decide) rfl (fun ls hl => ?_)
          refine lv_iinc (k := 3) (v := nI (i + 1)) (lv' := [(3, .int (nI (i + 1))), (2, .int (nI (cntA (rP z) x i + 0))), (0, .ref (q 0)), (1, .int x)]) hx hb d_M_availableIn_30 hl rfl (nI_add i 1) (by decide) rfl (fun ls hl => ?_)
          refine lv_goto hx hb d_M_availableIn_33 rfl ?_
          have e1 : nI (cntA (rP z) x (i + 1)) = nI (cntA (rP z) x i + 0) := by first | rfl | (simp [cntA, g9, h9, k9, g20, h20]; done) | omega
          exact ih (i + 1) ls (by omega) (by rw [e1]; exact lv_sub hl [2, 3, 1, 0] rfl)
        · have h20 := Int32.not_le.mp g20
          refine lv_iconst (v := 1) hx hb d_M_availableIn_23 (by decide) ?_
          refine lv_goto hx hb d_M_availableIn_24 rfl ?_
          refine lv_iadd hx hb d_M_availableIn_28 ?_
          refine k_top (nI (cntA (rP z) x i + 1)) (nI_add (cntA (rP z) x i) 1) ?_
          refine lv_istore_n (lv' := [(2, .int (nI (cntA (rP z) x i + 1))), (0, .ref (q 0)), (1, .int x), (3, .int (nI i))]) hx hb d_M_availableIn_29 rfl hl (by decide) rfl (fun ls hl => ?_)
          refine lv_iinc (k := 3) (v := nI (i + 1)) (lv' := [(3, .int (nI (i + 1))), (2, .int (nI (cntA (rP z) x i + 1))), (0, .ref (q 0)), (1, .int x)]) hx hb d_M_availableIn_30 hl rfl (nI_add i 1) (by decide) rfl (fun ls hl => ?_)
          refine lv_goto hx hb d_M_availableIn_33 rfl ?_
          have e2 : nI (cntA (rP z) x (i + 1)) = nI (cntA (rP z) x i + 1) := by first | rfl | (simp [cntA, g9, h9, k9, g20, h20]; done) | omega
          exact ih (i + 1) ls (by omega) (by rw [e2]; exact lv_sub hl [2, 3, 1, 0] rfl)
  have e3 : nI (cntA (rP z) x 0) = 0 := by first | rfl | (simp [cntA]; done) | omega
  have e4 : nI 0 = 0 := by first | rfl | (simp [cntA]; done) | omega
  exact L4 N 0 ls (by omega) (by rw [e3, e4]; exact lv_sub hl [2, 3, 1, 0] rfl)
set_option maxHeartbeats 4000000 in
set_option maxRecDepth 100000 in
theorem c_Model_sum (l : Launch) (D : va_G) (cA : ClassId) (q : Nat → Nat) (N S : Nat) (z : RS) (gN4 : 4 ≤ N) (gN : N ≤ 10) (gS1 : 1 ≤ S) (gS : S ≤ 16) : Met l y_M_sum w_M_sum ({ frames := 0, cells := 0, slots := 0, locals := 0 }) (va_Pc [.ref (q 0)] (k_R D [(cA, .int)] (wM cA q N S z))) (k_Ro (some (.int (fgL (rV z) 0 (N - 2))))) 0 0 (fun _ => False) := by
  refine Met.ofW (cc := b_M_sum) (maxL := 3) (ret := (some .int)) (by decide) rfl ?_
  intro p e s m args below meth c s₁ B hml hv
  obtain ⟨rfl, hP, hK⟩ := hv
  have hx := B.exec
  have hb := B.bytes
  have hr := B.returns
  have hts0 := atoms_spec (ws := w_M_sum) B.pre
  have hts : ∀ w ∈ lw_g, w.before _ s = true := fun w h => hts0 w (List.mem_cons_of_mem _ h)
  have hown : s.vm.findClass R_M = some m.cls := findClass_of_methodNamed B.named
  have hlocks := B.notSynchronized
  have hl := lv_entry ([.ref (q 0)]) (n := 3) (Nat.le_of_ble_eq_true rfl)
  rw [lg_entry_eq]
  generalize (lg_sl ([.ref (q 0)]) ++ List.replicate (3 - (lg_sl ([.ref (q 0)])).length) Slot.unset).toArray = ls at hl ⊢
  have hl : lv_has ls 3 [(0, .ref (q 0))] := hl
  refine lv_iconst (v := 0) hx hb d_M_sum_0 (by decide) ?_
  refine lv_istore_n (lv' := [(1, .int 0), (0, .ref (q 0))]) hx hb d_M_sum_1 rfl hl (by decide) rfl (fun ls hl => ?_)
  refine lv_iconst (v := 0) hx hb d_M_sum_2 (by decide) ?_
  refine lv_istore_n (lv' := [(2, .int 0), (1, .int 0), (0, .ref (q 0))]) hx hb d_M_sum_3 rfl hl (by decide) rfl (fun ls hl => ?_)
  have L4 : ∀ (k : Nat) (i : Nat) (ls : Array Slot), i + k = N - 2 → lv_has ls 3 [(0, .ref (q 0)), (1, .int (fgL (rV z) 0 i)), (2, .int (nI i))] → W p l e (headSpec w_M_sum ({ frames := 0, cells := 0, slots := 0, locals := 0 })).room s m ([.ref (q 0)] : List Value).toArray below meth c s.heap [] 0 0 (MQ below (k_Ro (some (.int (fgL (rV z) 0 (N - 2))))) ([.ref (q 0)] : List Value).toArray s 0 0 (fun _ => False)) (F0 m 4 ls []) := by
    intro k
    induction k with
    | zero =>
      intro i ls hk hl
      obtain rfl : N - 2 = i := by omega
      refine lv_iload_n hx hb d_M_sum_4 rfl (lv_at hl 2 rfl) ?_
      refine lv_aload_n hx hb d_M_sum_5 rfl (lv_at hl 0 rfl) ?_
      refine va_get (D := D) (ci := 4) (v := .int (nI N)) (C := R_M) (T := T_M) (N := 16) hx hb hts (in_M) hown hK hP 0 rfl rfl 0 (by decide) (hts _ m_f_M_26) (fun _ h9 => h9) rfl d_M_sum_6 ?_
      refine lv_iconst (v := 2) hx hb d_M_sum_9 (by decide) ?_
      refine lv_isub hx hb d_M_sum_10 ?_
      refine k_top (nI (N - 2)) (pk_sub (a := N) (b := 2) (by omega)) ?_
      refine lv_icmp_ge (tgt := 29) hx hb d_M_sum_11 rfl (fun g11 => ?_) (fun g11 => ?_)
      · have h11 : (N - 2) ≤ (N - 2) := (nI_leI (a := N - 2) (b := N - 2) (by omega) (by omega)).mp g11
        have k11 : ¬ (N - 2) < (N - 2) := by omega
        refine lv_iload_n hx hb d_M_sum_29 rfl (lv_at hl 1 rfl) ?_
        exact W.iret (v := fgL (rV z) 0 (N - 2)) hx hb hr (fun t ht hW => ⟨rfl, ht⟩) (fun _ h => by cases h) d_M_sum_30
      · have h11 : ¬ (N - 2) ≤ (N - 2) := fun q9 => g11 ((nI_leI (a := N - 2) (b := N - 2) (by omega) (by omega)).mpr q9)
        have k11 : (N - 2) < (N - 2) := by omega
        exfalso; omega
    | succ k ih =>
      intro i ls hk hl
      refine lv_iload_n hx hb d_M_sum_4 rfl (lv_at hl 2 rfl) ?_
      refine lv_aload_n hx hb d_M_sum_5 rfl (lv_at hl 0 rfl) ?_
      refine va_get (D := D) (ci := 4) (v := .int (nI N)) (C := R_M) (T := T_M) (N := 16) hx hb hts (in_M) hown hK hP 0 rfl rfl 0 (by decide) (hts _ m_f_M_26) (fun _ h9 => h9) rfl d_M_sum_6 ?_
      refine lv_iconst (v := 2) hx hb d_M_sum_9 (by decide) ?_
      refine lv_isub hx hb d_M_sum_10 ?_
      refine k_top (nI (N - 2)) (pk_sub (a := N) (b := 2) (by omega)) ?_
      refine lv_icmp_ge (tgt := 29) hx hb d_M_sum_11 rfl (fun g11 => ?_) (fun g11 => ?_)
      · have h11 : (N - 2) ≤ i := (nI_leI (a := N - 2) (b := i) (by omega) (by omega)).mp g11
        have k11 : ¬ i < (N - 2) := by omega
        exfalso; omega
      · have h11 : ¬ (N - 2) ≤ i := fun q9 => g11 ((nI_leI (a := N - 2) (b := i) (by omega) (by omega)).mpr q9)
        have k11 : i < (N - 2) := by omega
        refine lv_iload_n hx hb d_M_sum_14 rfl (lv_at hl 1 rfl) ?_
        refine lv_aload_n hx hb d_M_sum_15 rfl (lv_at hl 0 rfl) ?_
        refine va_get (D := D) (ci := 4) (v := .ref (q 3)) (C := R_M) (T := T_M) (N := 16) hx hb hts (in_M) hown hK hP 0 rfl rfl 11 (by decide) (hts _ m_f_M_16) (fun _ h9 => h9) rfl d_M_sum_16 ?_
        refine lv_iload_n hx hb d_M_sum_19 rfl (lv_at hl 2 rfl) ?_
        refine va_iald (n := 10) (f := rV z) hx hb hK hP 3 0 rfl rfl (vp_in_nI (by omega) (by omega)) d_M_sum_20 ?_
        refine k_top ((rV z) i) (by rw [show (nI i : Int32).toNatClampNeg = i from nI_clamp (n := i) (by omega)]) ?_
        refine lv_ixor hx hb d_M_sum_21 ?_
        refine lv_istore_n (lv' := [(1, .int ((fgL (rV z) 0 i) ^^^ ((rV z) i))), (0, .ref (q 0)), (2, .int (nI i))]) hx hb d_M_sum_22 rfl hl (by decide) rfl (fun ls hl => ?_)
        refine lv_iinc (k := 2) (v := nI (i + 1)) (lv' := [(2, .int (nI (i + 1))), (1, .int ((fgL (rV z) 0 i) ^^^ ((rV z) i))), (0, .ref (q 0))]) hx hb d_M_sum_23 hl rfl (nI_add i 1) (by decide) rfl (fun ls hl => ?_)
        refine lv_goto hx hb d_M_sum_26 rfl ?_
        have e1 : fgL (rV z) 0 (i + 1) = (fgL (rV z) 0 i) ^^^ ((rV z) i) := by first | rfl | (simp [fgL, g11, h11, k11]; done) | omega
        exact ih (i + 1) ls (by omega) (by rw [e1]; exact lv_sub hl [2, 1, 0] rfl)
  have e2 : fgL (rV z) 0 0 = 0 := by first | rfl | (simp [fgL]; done) | omega
  have e3 : nI 0 = 0 := by first | rfl | (simp [fgL]; done) | omega
  exact L4 (N - 2) 0 ls (by omega) (by rw [e2, e3]; exact lv_sub hl [2, 1, 0] rfl)
set_option maxHeartbeats 4000000 in
set_option maxRecDepth 100000 in
theorem c_Model_weighted (l : Launch) (D : va_G) (cA : ClassId) (q : Nat → Nat) (N S : Nat) (z : RS) (gN4 : 4 ≤ N) (gN : N ≤ 10) (gS1 : 1 ≤ S) (gS : S ≤ 16) : Met l y_M_weighted w_M_weighted ({ frames := 2, cells := 0, slots := 0, locals := 47 }) (va_Pc [.ref (q 0)] (k_R D [(cA, .int)] (wM cA q N S z))) (k_Ro (some (.int (wsR (rV z) (N - 2))))) 0 0 (fun _ => False) := by
  refine Met.ofW (cc := b_M_weighted) (maxL := 3) (ret := (some .int)) (by decide) rfl ?_
  intro p e s m args below meth c s₁ B hml hv
  obtain ⟨rfl, hP, hK⟩ := hv
  have hx := B.exec
  have hb := B.bytes
  have hr := B.returns
  have hts0 := atoms_spec (ws := w_M_weighted) B.pre
  have hts : ∀ w ∈ lw_g, w.before _ s = true := fun w h => hts0 w (List.mem_cons_of_mem _ h)
  have hown : s.vm.findClass R_M = some m.cls := findClass_of_methodNamed B.named
  have hlocks := B.notSynchronized
  have hl := lv_entry ([.ref (q 0)]) (n := 3) (Nat.le_of_ble_eq_true rfl)
  rw [lg_entry_eq]
  generalize (lg_sl ([.ref (q 0)]) ++ List.replicate (3 - (lg_sl ([.ref (q 0)])).length) Slot.unset).toArray = ls at hl ⊢
  have hl : lv_has ls 3 [(0, .ref (q 0))] := hl
  refine lv_iconst (v := 0) hx hb d_M_weighted_0 (by decide) ?_
  refine lv_istore_n (lv' := [(1, .int 0), (0, .ref (q 0))]) hx hb d_M_weighted_1 rfl hl (by decide) rfl (fun ls hl => ?_)
  refine lv_iconst (v := 0) hx hb d_M_weighted_2 (by decide) ?_
  refine lv_istore_n (lv' := [(2, .int 0), (1, .int 0), (0, .ref (q 0))]) hx hb d_M_weighted_3 rfl hl (by decide) rfl (fun ls hl => ?_)
  have L4 : ∀ (k : Nat) (i : Nat) (ls : Array Slot), i + k = N - 2 → lv_has ls 3 [(0, .ref (q 0)), (1, .int (wsR (rV z) i)), (2, .int (nI i))] → W p l e (headSpec w_M_weighted ({ frames := 2, cells := 0, slots := 0, locals := 47 })).room s m ([.ref (q 0)] : List Value).toArray below meth c s.heap [] 0 0 (MQ below (k_Ro (some (.int (wsR (rV z) (N - 2))))) ([.ref (q 0)] : List Value).toArray s 0 0 (fun _ => False)) (F0 m 4 ls []) := by
    intro k
    induction k with
    | zero =>
      intro i ls hk hl
      obtain rfl : N - 2 = i := by omega
      refine lv_iload_n hx hb d_M_weighted_4 rfl (lv_at hl 2 rfl) ?_
      refine lv_aload_n hx hb d_M_weighted_5 rfl (lv_at hl 0 rfl) ?_
      refine va_get (D := D) (ci := 4) (v := .int (nI N)) (C := R_M) (T := T_M) (N := 16) hx hb hts (in_M) hown hK hP 0 rfl rfl 0 (by decide) (hts _ m_f_M_26) (fun _ h9 => h9) rfl d_M_weighted_6 ?_
      refine lv_iconst (v := 2) hx hb d_M_weighted_9 (by decide) ?_
      refine lv_isub hx hb d_M_weighted_10 ?_
      refine k_top (nI (N - 2)) (pk_sub (a := N) (b := 2) (by omega)) ?_
      refine lv_icmp_ge (tgt := 33) hx hb d_M_weighted_11 rfl (fun g11 => ?_) (fun g11 => ?_)
      · have h11 : (N - 2) ≤ (N - 2) := (nI_leI (a := N - 2) (b := N - 2) (by omega) (by omega)).mp g11
        have k11 : ¬ (N - 2) < (N - 2) := by omega
        refine lv_iload_n hx hb d_M_weighted_33 rfl (lv_at hl 1 rfl) ?_
        exact W.iret (v := wsR (rV z) (N - 2)) hx hb hr (fun t ht hW => ⟨rfl, ht⟩) (fun _ h => by cases h) d_M_weighted_34
      · have h11 : ¬ (N - 2) ≤ (N - 2) := fun q9 => g11 ((nI_leI (a := N - 2) (b := N - 2) (by omega) (by omega)).mpr q9)
        have k11 : (N - 2) < (N - 2) := by omega
        exfalso; omega
    | succ k ih =>
      intro i ls hk hl
      refine lv_iload_n hx hb d_M_weighted_4 rfl (lv_at hl 2 rfl) ?_
      refine lv_aload_n hx hb d_M_weighted_5 rfl (lv_at hl 0 rfl) ?_
      refine va_get (D := D) (ci := 4) (v := .int (nI N)) (C := R_M) (T := T_M) (N := 16) hx hb hts (in_M) hown hK hP 0 rfl rfl 0 (by decide) (hts _ m_f_M_26) (fun _ h9 => h9) rfl d_M_weighted_6 ?_
      refine lv_iconst (v := 2) hx hb d_M_weighted_9 (by decide) ?_
      refine lv_isub hx hb d_M_weighted_10 ?_
      refine k_top (nI (N - 2)) (pk_sub (a := N) (b := 2) (by omega)) ?_
      refine lv_icmp_ge (tgt := 33) hx hb d_M_weighted_11 rfl (fun g11 => ?_) (fun g11 => ?_)
      · have h11 : (N - 2) ≤ i := (nI_leI (a := N - 2) (b := i) (by omega) (by omega)).mp g11
        have k11 : ¬ i < (N - 2) := by omega
        exfalso; omega
      · have h11 : ¬ (N - 2) ≤ i := fun q9 => g11 ((nI_leI (a := N - 2) (b := i) (by omega) (by omega)).mpr q9)
        have k11 : i < (N - 2) := by omega
        refine lv_iload_n hx hb d_M_weighted_14 rfl (lv_at hl 1 rfl) ?_
        refine lv_aload_n hx hb d_M_weighted_15 rfl (lv_at hl 0 rfl) ?_
        refine va_get (D := D) (ci := 4) (v := .ref (q 3)) (C := R_M) (T := T_M) (N := 16) hx hb hts (in_M) hown hK hP 0 rfl rfl 11 (by decide) (hts _ m_f_M_16) (fun _ h9 => h9) rfl d_M_weighted_16 ?_
        refine lv_iload_n hx hb d_M_weighted_19 rfl (lv_at hl 2 rfl) ?_
        refine va_iald (n := 10) (f := rV z) hx hb hK hP 3 0 rfl rfl (vp_in_nI (by omega) (by omega)) d_M_weighted_20 ?_
        refine k_top ((rV z) i) (by rw [show (nI i : Int32).toNatClampNeg = i from nI_clamp (n := i) (by omega)]) ?_
        refine lv_iload_n hx hb d_M_weighted_21 rfl (lv_at hl 2 rfl) ?_
        refine k_roi (va_runS (As := [.int ((rV z) i), .int (nI i)]) (rest := [.int (wsR (rV z) i)]) ⟨hx, hb, hml, hown, hts⟩ (c_Model_times l D ((rV z) i) i (by omega)) (k_cwS 2 hts m_code_M_times m_ini_M m_l_M_42 m_stat_M_times h_M_times rfl rfl ⟨Nat.le_of_ble_eq_true rfl, Nat.le_of_ble_eq_true rfl⟩) (k_s0) rfl rfl hl.1 rfl (lv_room (Nat.le_of_ble_eq_true rfl)) d_M_weighted_22 ⟨Nat.zero_le _, Nat.zero_le _⟩) ?_
        refine lv_ixor hx hb d_M_weighted_25 ?_
        refine lv_istore_n (lv' := [(1, .int ((wsR (rV z) i) ^^^ (tmL ((rV z) i) i 4))), (0, .ref (q 0)), (2, .int (nI i))]) hx hb d_M_weighted_26 rfl hl (by decide) rfl (fun ls hl => ?_)
        refine lv_iinc (k := 2) (v := nI (i + 1)) (lv' := [(2, .int (nI (i + 1))), (1, .int ((wsR (rV z) i) ^^^ (tmL ((rV z) i) i 4))), (0, .ref (q 0))]) hx hb d_M_weighted_27 hl rfl (nI_add i 1) (by decide) rfl (fun ls hl => ?_)
        refine lv_goto hx hb d_M_weighted_30 rfl ?_
        have e1 : wsR (rV z) (i + 1) = (wsR (rV z) i) ^^^ (tmL ((rV z) i) i 4) := by first | rfl | (simp [wsR, g11, h11, k11]; done) | omega
        exact ih (i + 1) ls (by omega) (by rw [e1]; exact lv_sub hl [2, 1, 0] rfl)
  have e2 : wsR (rV z) 0 = 0 := by first | rfl | (simp [wsR]; done) | omega
  have e3 : nI 0 = 0 := by first | rfl | (simp [wsR]; done) | omega
  exact L4 (N - 2) 0 ls (by omega) (by rw [e2, e3]; exact lv_sub hl [2, 1, 0] rfl)
