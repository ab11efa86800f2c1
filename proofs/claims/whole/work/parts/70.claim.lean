/-! THE CLAIM OUT OF ONE WALK OF THE LAW'S BODY. Your part is whole_start (and what it stands on); all else here is the same for every law, but numbers. -/
def R_law : String := "DualParityArrayLaw"
def lw_P (b : Addr) (xs : List Int32) (args : Array Value) (s : State) : Prop := args = #[.ref b] ∧ s.IntsAt b xs ∧ xs.length ≤ 2051 ∧ (Jvm.Cond.and given_1 narrow_1).before args s = true
def lw_Q (_ : Array Value) (s : State) (o : Outcome) (t : State) : Prop := o = .returned (some (.int 1)) ∧ Framed s o t [] 600000 7302250
def lw_Z (below : List Frame) (a : Array Value) (s : State) : State → Prop := fun t => ∃ o, t.status = .running ∧ Ended t below o ∧ lw_Q a s o t
/-- the law's own end, with 1 on the stack, nothing written that was there before, its room as the claim has it -/
theorem lw_ret {p : Program} {l : Launch} {e : Env} {s : State} {m : MethodId} {below : List Frame} {meth : Method} {c : Code} {b : Nat} (hx : p.tables.exec = Jvm.exec) (hb : c.code = code) (hr : meth.sig.returnType = ret) (hlocks : meth.locks = false) {pc : Nat} {H : Heap} {ls : Array Slot} (hdg : decode code pc = .ok (.ireturn, 1)) : W p l e room_1 s m #[Value.ref b] below meth c H [] 600000 7302250 (lw_Z below #[Value.ref b] s) (F0 m pc ls [.int 1]) := by
  intro T hT X
  obtain ⟨fs, hret, hrun, hended, hW, hframe⟩ := X.leave (v := some (.int 1)) (hlocks := hlocks) (fun h => by rw [hr] at h; cases h)
  have hmeth' : T.vm.method? m = some meth := X.method'
  refine ⟨T.setFrames fs, ?_, .returned (some (.int 1)), hrun, hended, rfl, ⟨_, rfl⟩, hW, hframe⟩
  jvm_step X.here [X.here.top, hx, hb, hdg, hmeth', hr, ret, narrow_b1]
  (try refine ⟨rfl, ?_⟩); (try refine ⟨rfl, ?_⟩)
  first | (intro acts; rw [hret _ acts rfl rfl rfl]) | rw [hret _ _ rfl rfl rfl]
  exact Steps.refl _
/-- what holds at the law's entry: the machine, the code, the tables' words (any of lw_tbl by 'hts w (by decide +kernel)'), the script of L ints xs at the cell b, what the Statement gives of the start (any of its parts by flat_of_before) -/
def lw_At (p : Program) (s : State) (m : MethodId) (meth : Method) (c : Code) (b L : Nat) (xs : Nat → Int32) : Prop :=
  p.tables.exec = Jvm.exec ∧ c.code = code ∧ meth.sig.returnType = ret ∧ c.maxLocals = 4 ∧ s.vm.findClass R_law = some m.cls ∧ (∀ w ∈ lw_tbl, w.before #[Value.ref b] s = true) ∧ va_X b L xs s s.heap ∧ b < s.heap.size ∧ meth.locks = false ∧ (Jvm.Cond.and given_1 narrow_1).before #[Value.ref b] s = true
-- ===== YOUR PART BEGINS =====
theorem lw_kn {s : State} {args : Array Value} (hts : ∀ w ∈ lw_g, w.before args s = true) : ∃ D : va_G, va_K D vwCl [] s := by
  obtain ⟨c0, i0, h0⟩ := u_known hts in_D (hts _ m_new_D)
  obtain ⟨c1, i1, h1⟩ := u_known hts in_L (hts _ m_new_L)
  obtain ⟨c2, i2, h2⟩ := u_known hts in_S (hts _ m_new_S)
  obtain ⟨c3, i3, h3⟩ := u_known hts in_A (hts _ m_new_A)
  obtain ⟨c4, i4, h4⟩ := u_known hts in_M (hts _ m_new_M)
  refine ⟨(fun c => match c with | 0 => c0 | 1 => c1 | 2 => c2 | 3 => c3 | _ => c4, fun c => match c with | 0 => i0 | 1 => i1 | 2 => i2 | 3 => i3 | _ => i4), fun c q hq => ?_, fun k q hq => by simp at hq⟩
  rcases c with _ | _ | _ | _ | _ | c
  · cases hq; exact h0
  · cases hq; exact h1
  · cases hq; exact h2
  · cases hq; exact h3
  · cases hq; exact h4
  · simp at hq
theorem lw_ka {s : State} {args : Array Value} {D : va_G} (hts : ∀ w ∈ lw_g, w.before args s = true) (hK : va_K D vwCl [] s) : ∃ cA : ClassId, va_K D vwCl [(cA, .int)] s := by
  obtain ⟨cA, kA, comp, hf, hk, hkind⟩ := Cond.arrayClass_spec (hts _ m_arr)
  refine ⟨cA, hK.1, fun k q hq => ?_⟩
  rcases k with _ | k
  · cases hq
    exact ⟨fun n z => ⟨fun k h => (by cases h), kA, hk, comp, hkind⟩, hf⟩
  · simp at hq
theorem lw_tb {s : State} {b : Nat} (hts : ∀ w ∈ lw_tbl, w.before #[Value.ref b] s = true) (hgv : (Jvm.Cond.and given_1 narrow_1).before #[Value.ref b] s = true) : k_Tb (lwA s) s s.heap := by
  have hs := flat_of_before _ hgv
  have harr : (Cond.arrayOf (.static "DualParityArray$Words" "INVERSES_OF_1_PLUS_POWER" "[I") .int).before #[Value.ref b] s = true := hs _ (by decide +kernel)
  have hlen := va_eqt (hs (Cond.eq (.length (.static "DualParityArray$Words" "INVERSES_OF_1_PLUS_POWER" "[I")) (.int 8)) (by decide +kernel))
  have hA : ∀ a : Nat, a < s.heap.size → ¬ lwA s a := fun a h => Nat.not_le.mpr h
  have hel : ∀ j : Nat, j < 8 → (Term.elem (.static "DualParityArray$Words" "INVERSES_OF_1_PLUS_POWER" "[I") (.int (Int32.ofNat j))).eval #[Value.ref b] s none [] s = some (.int (tabI j)) := by
    intro j hj
    rcases (show j = 0 ∨ j = 1 ∨ j = 2 ∨ j = 3 ∨ j = 4 ∨ j = 5 ∨ j = 6 ∨ j = 7 by omega) with rfl | rfl | rfl | rfl | rfl | rfl | rfl | rfl
    · exact va_eqt (hs (Cond.eq (.elem (.static "DualParityArray$Words" "INVERSES_OF_1_PLUS_POWER" "[I") (.int 0)) (.int 0)) (by decide +kernel))
    · exact va_eqt (hs (Cond.eq (.elem (.static "DualParityArray$Words" "INVERSES_OF_1_PLUS_POWER" "[I") (.int 1)) (.int 244)) (by decide +kernel))
    · exact va_eqt (hs (Cond.eq (.elem (.static "DualParityArray$Words" "INVERSES_OF_1_PLUS_POWER" "[I") (.int 2)) (.int 167)) (by decide +kernel))
    · exact va_eqt (hs (Cond.eq (.elem (.static "DualParityArray$Words" "INVERSES_OF_1_PLUS_POWER" "[I") (.int 3)) (.int 157)) (by decide +kernel))
    · exact va_eqt (hs (Cond.eq (.elem (.static "DualParityArray$Words" "INVERSES_OF_1_PLUS_POWER" "[I") (.int 4)) (.int 114)) (by decide +kernel))
    · exact va_eqt (hs (Cond.eq (.elem (.static "DualParityArray$Words" "INVERSES_OF_1_PLUS_POWER" "[I") (.int 5)) (.int 237)) (by decide +kernel))
    · exact va_eqt (hs (Cond.eq (.elem (.static "DualParityArray$Words" "INVERSES_OF_1_PLUS_POWER" "[I") (.int 6)) (.int 95)) (by decide +kernel))
    · exact va_eqt (hs (Cond.eq (.elem (.static "DualParityArray$Words" "INVERSES_OF_1_PLUS_POWER" "[I") (.int 7)) (.int 84)) (by decide +kernel))
  obtain ⟨t, ht, hT⟩ := va_Tof (N := 8) (f := fun j => .int (tabI j)) (A := lwA s) (by decide) harr hlen hel hA
  exact ⟨t, va_Zref (hts (Cond.laysStatic "DualParityArray$Words" "INVERSES_OF_1_PLUS_POWER" "[I") (List.mem_of_getElem? (i := 227) (by decide +kernel))) (hts (Cond.initialized "DualParityArray$Words") (List.mem_of_getElem? (i := 38) (by decide +kernel))) ht hA, hT⟩
set_option maxHeartbeats 4000000 in
set_option maxRecDepth 100000 in
/-- YOUR PART: from the entry, for every script of at most 2051 ints, the law comes to its end with true -/
theorem whole_start {p : Program} {e : Env} {s : State} {m : MethodId} {below : List Frame} {meth : Method} {c : Code} (l : Launch) {b L : Nat} {xs : Nat → Int32} (hL : L ≤ 2051) (C0 : lw_At p s m meth c b L xs) : W p l e room_1 s m #[Value.ref b] below meth c s.heap [] 0 0 (lw_Z below #[Value.ref b] s) (entryFrame m ([Value.ref b] : List Value).toArray 4) := by
  obtain ⟨hx, hb, hr, hml, hown0, hts0, hX, hbl, hlocks, hgv⟩ := C0
  have hown : s.vm.findClass R_Z = some m.cls := hown0
  have hts : ∀ w ∈ lw_g, w.before #[Value.ref b] s = true := fun w h => hts0 w (List.mem_filter.mp h).1
  obtain ⟨D, hK0⟩ := lw_kn hts
  obtain ⟨cA, hK⟩ := lw_ka hts hK0
  have hTb : k_Tb (lwA s) s s.heap := lw_tb hts0 hgv
  have hA : ∀ q : Nat, s.heap.size ≤ q → lwA s q := fun _ h => h
  have hS : va_S (lwA s) s.heap s.heap [] := va_S.rf
  have hP : va_P D vwCl [] s.heap := fun k q h => by simp at h
  have hD : va_D (lwA s) [] := ⟨fun i j p q h => by simp at h, fun k q h => by simp at h⟩
  have hbA : ¬ lwA s b := Nat.not_le.mpr hbl
  have hl := lv_entry ([.ref b]) (n := 4) (Nat.le_of_ble_eq_true rfl)
  rw [lg_entry_eq]
  generalize (lg_sl ([.ref b]) ++ List.replicate (4 - (lg_sl ([.ref b])).length) Slot.unset).toArray = ls at hl ⊢
  have hl : lv_has ls 4 [(0, .ref b)] := hl
  refine va_new (ci := 3) (fs := [.int 0, .int 0, .null, .null, .null, .int 0, .int 0, .int 0, .int 0, .int 0, .int 0]) (C := R_A) (T := T_A) (N := 11) hx hb hts (in_A) ty_A tyok_A hown (hts _ m_k_Z_7) (hts _ m_new_A) (hts _ m_ini_A) hK hP hD hS hA rfl (fun j hj => bl_A j hj) (by decide +kernel) (by decide +kernel) d_Z_law_0 (fun qa H hP hD hS => ?_)
  refine W.widen (k := 1) (n := 11) (by decide) (by decide) ?_
  have hP : va_P D vwCl [(qa, .inr (3, [.int 0, .int 0, .null, .null, .null, .int 0, .int 0, .int 0, .int 0, .int 0, .int 0]))] H := hP
  have hD : va_D (lwA s) [(qa, .inr (3, [.int 0, .int 0, .null, .null, .null, .int 0, .int 0, .int 0, .int 0, .int 0, .int 0]))] := hD
  refine lv_dup hx hb d_Z_law_3 rfl ?_
  refine lv_aload_n hx hb d_Z_law_4 rfl (lv_at hl 0 rfl) ?_
  refine lv_iconst (v := nI 0) hx hb d_Z_law_5 (by decide) ?_
  refine k_roi (va_runS (As := [.ref b, .int (nI 0)]) (rest := [.ref qa, .ref qa]) ⟨hx, hb, hml, hown, hts⟩ (c_Law_cell l b L 0 xs hL (by decide)) (k_cwS 2 hts m_code_Z_cell m_ini_Z m_l_Z_9 m_stat_Z_cell h_Z_cell rfl rfl ⟨Nat.le_of_ble_eq_true rfl, Nat.le_of_ble_eq_true rfl⟩) (k_sX hX hbl hbA hS) rfl rfl hl.1 rfl (lv_room (Nat.le_of_ble_eq_true rfl)) d_Z_law_6 ⟨(by decide +kernel), (by decide +kernel)⟩) ?_
  refine lv_topi (fun x0 hx0 => ?_)
  refine lv_aload_n hx hb d_Z_law_9 rfl (lv_at hl 0 rfl) ?_
  refine lv_iconst (v := nI 1) hx hb d_Z_law_10 (by decide) ?_
  refine k_roi (va_runS (As := [.ref b, .int (nI 1)]) (rest := [.int x0, .ref qa, .ref qa]) ⟨hx, hb, hml, hown, hts⟩ (c_Law_cell l b L 1 xs hL (by decide)) (k_cwS 2 hts m_code_Z_cell m_ini_Z m_l_Z_9 m_stat_Z_cell h_Z_cell rfl rfl ⟨Nat.le_of_ble_eq_true rfl, Nat.le_of_ble_eq_true rfl⟩) (k_sX hX hbl hbA hS) rfl rfl hl.1 rfl (lv_room (Nat.le_of_ble_eq_true rfl)) d_Z_law_11 ⟨(by decide +kernel), (by decide +kernel)⟩) ?_
  refine lv_topi (fun x1 hx1 => ?_)
  refine lv_aload_n hx hb d_Z_law_14 rfl (lv_at hl 0 rfl) ?_
  refine lv_iconst (v := nI 2) hx hb d_Z_law_15 (by decide) ?_
  refine k_roi (va_runS (As := [.ref b, .int (nI 2)]) (rest := [.int x1, .int x0, .ref qa, .ref qa]) ⟨hx, hb, hml, hown, hts⟩ (c_Law_cell l b L 2 xs hL (by decide)) (k_cwS 2 hts m_code_Z_cell m_ini_Z m_l_Z_9 m_stat_Z_cell h_Z_cell rfl rfl ⟨Nat.le_of_ble_eq_true rfl, Nat.le_of_ble_eq_true rfl⟩) (k_sX hX hbl hbA hS) rfl rfl hl.1 rfl (lv_room (Nat.le_of_ble_eq_true rfl)) d_Z_law_16 ⟨(by decide +kernel), (by decide +kernel)⟩) ?_
  refine lv_topi (fun x2 hx2 => ?_)
  obtain ⟨N, g1, g2, hN⟩ := clm_nI x0 (lo := 4) (hi := 10) (by decide) (by decide)
  obtain ⟨S, g3, g4, hN2⟩ := clm_nI x1 (lo := 1) (hi := 16) (by decide) (by decide)
  obtain ⟨le, hle⟩ : ∃ v, clm x2 0 4 = v := ⟨_, rfl⟩
  refine k_ini (wr := []) (va_runI (As := [.int x0, .int x1, .int x2]) (rest := [.ref qa]) ⟨hx, hb, hml, hown, hts⟩ (c_DualParityArray_init l D cA qa _ N S g1 g2 g3 g4 x0 x1 x2 le ((wth_clm (by decide)).trans hN) ((wth_clm (by decide)).trans hN2) ((wth_clm (by decide)).trans hle)) (k_cwI 3 hts m_code_A_init m_ini_A m_l_Z_15 m_inst_A_init h_A_init rfl rfl rfl ⟨Nat.le_of_ble_eq_true rfl, Nat.le_of_ble_eq_true rfl⟩) (k_pN hP hK hD [0] (by decide) rfl) rfl rfl hl.1 rfl (lv_room (Nat.le_of_ble_eq_true rfl)) d_Z_law_19 ⟨(by decide +kernel), (by decide +kernel)⟩) hP hS hD hA [0] [] rfl rfl (by decide) (by decide) (fun u H locs hP hD hS => ?_)
  obtain ⟨q, hq⟩ := u
  subst hq
  refine W.widen (k := 8) (n := 213) (by decide) (by decide) ?_
  have hP : va_P D vwCl (wC cA q N S (cs0 N S le)) H := hP
  have hD : va_D (lwA s) (wC cA q N S (cs0 N S le)) := hD
  refine lv_astore_n (lv' := [(1, .ref (q 0)), (0, .ref b)]) hx hb d_Z_law_22 rfl hl (by decide) rfl (fun ls hl => ?_)
  refine va_new (ci := 4) (fs := [.int 0, .int 0, .int 0, .int 0, .int 0, .int 0, .int 0, .int 0, .int 0, .null, .null, .null, .null, .int 0, .int 0, .int 0]) (C := R_M) (T := T_M) (N := 16) hx hb hts (in_M) ty_M tyok_M hown (hts _ m_k_Z_18) (hts _ m_new_M) (hts _ m_ini_M) hK hP hD hS hA rfl (fun j hj => bl_M j hj) (by decide +kernel) (by decide +kernel) d_Z_law_23 (fun qm H hP hD hS => ?_)
  refine W.widen (k := 9) (n := 229) (by decide) (by decide) ?_
  have hP : va_P D vwCl (wC cA q N S (cs0 N S le) ++ [(qm, .inr (4, [.int 0, .int 0, .int 0, .int 0, .int 0, .int 0, .int 0, .int 0, .int 0, .null, .null, .null, .null, .int 0, .int 0, .int 0]))]) H := hP
  have hD : va_D (lwA s) (wC cA q N S (cs0 N S le) ++ [(qm, .inr (4, [.int 0, .int 0, .int 0, .int 0, .int 0, .int 0, .int 0, .int 0, .int 0, .null, .null, .null, .null, .int 0, .int 0, .int 0]))]) := hD
  refine lv_dup hx hb d_Z_law_26 rfl ?_
  refine lv_aload_n hx hb d_Z_law_27 rfl (lv_at hl 1 rfl) ?_
  refine lv_iconst (v := nI 0) hx hb d_Z_law_28 (by decide) ?_
  refine k_roi (va_runS (As := [.ref b, .int (nI 0)]) (rest := [.ref qm, .ref qm]) ⟨hx, hb, hml, hown, hts⟩ (c_Law_cell l b L 0 xs hL (by decide)) (k_cwS 2 hts m_code_Z_cell m_ini_Z m_l_Z_9 m_stat_Z_cell h_Z_cell rfl rfl ⟨Nat.le_of_ble_eq_true rfl, Nat.le_of_ble_eq_true rfl⟩) (k_sX hX hbl hbA hS) rfl rfl hl.1 rfl (lv_room (Nat.le_of_ble_eq_true rfl)) d_Z_law_29 ⟨(by decide +kernel), (by decide +kernel)⟩) ?_
  refine k_top x0 (by first | exact hx0 | exact hx0.symm) ?_
  refine lv_aload_n hx hb d_Z_law_32 rfl (lv_at hl 1 rfl) ?_
  refine lv_iconst (v := nI 1) hx hb d_Z_law_33 (by decide) ?_
  refine k_roi (va_runS (As := [.ref b, .int (nI 1)]) (rest := [.int x0, .ref qm, .ref qm]) ⟨hx, hb, hml, hown, hts⟩ (c_Law_cell l b L 1 xs hL (by decide)) (k_cwS 2 hts m_code_Z_cell m_ini_Z m_l_Z_9 m_stat_Z_cell h_Z_cell rfl rfl ⟨Nat.le_of_ble_eq_true rfl, Nat.le_of_ble_eq_true rfl⟩) (k_sX hX hbl hbA hS) rfl rfl hl.1 rfl (lv_room (Nat.le_of_ble_eq_true rfl)) d_Z_law_34 ⟨(by decide +kernel), (by decide +kernel)⟩) ?_
  refine k_top x1 (by first | exact hx1 | exact hx1.symm) ?_
  refine lv_aload_n hx hb d_Z_law_37 rfl (lv_at hl 1 rfl) ?_
  refine lv_iconst (v := nI 2) hx hb d_Z_law_38 (by decide) ?_
  refine k_roi (va_runS (As := [.ref b, .int (nI 2)]) (rest := [.int x1, .int x0, .ref qm, .ref qm]) ⟨hx, hb, hml, hown, hts⟩ (c_Law_cell l b L 2 xs hL (by decide)) (k_cwS 2 hts m_code_Z_cell m_ini_Z m_l_Z_9 m_stat_Z_cell h_Z_cell rfl rfl ⟨Nat.le_of_ble_eq_true rfl, Nat.le_of_ble_eq_true rfl⟩) (k_sX hX hbl hbA hS) rfl rfl hl.1 rfl (lv_room (Nat.le_of_ble_eq_true rfl)) d_Z_law_39 ⟨(by decide +kernel), (by decide +kernel)⟩) ?_
  refine k_top x2 (by first | exact hx2 | exact hx2.symm) ?_
  refine k_ini (wr := wC cA q N S (cs0 N S le)) (va_runI (As := [.int x0, .int x1, .int x2]) (rest := [.ref qm]) ⟨hx, hb, hml, hown, hts⟩ (c_Model_init l D cA qm _ N S g1 g2 g3 g4 x0 x1 x2 le hN hN2 hle) (k_cwI 3 hts m_code_M_init m_ini_M m_l_Z_20 m_inst_M_init h_M_init rfl rfl rfl ⟨Nat.le_of_ble_eq_true rfl, Nat.le_of_ble_eq_true rfl⟩) (k_pN hP hK hD [8] (by decide) rfl) rfl rfl hl.1 rfl (lv_room (Nat.le_of_ble_eq_true rfl)) d_Z_law_42 ⟨(by decide +kernel), (by decide +kernel)⟩) hP hS hD hA [8] [0, 1, 2, 3, 4, 5, 6, 7] rfl rfl (by decide) (by decide) (fun u H locs hP hD hS => ?_)
  obtain ⟨q2, hq2⟩ := u
  subst hq2
  refine W.widen (k := 13) (n := 419) (by decide) (by decide) ?_
  have hP : va_P D vwCl (wB cA q q2 N S (cs0 N S le) (rs0 N S le)) H := hP
  have hD : va_D (lwA s) (wB cA q q2 N S (cs0 N S le) (rs0 N S le)) := hD
  refine lv_astore_n (lv' := [(2, .ref (q2 0)), (1, .ref (q 0)), (0, .ref b)]) hx hb d_Z_law_45 rfl hl (by decide) rfl (fun ls hl => ?_)
  refine lv_iconst (v := nI 3) hx hb d_Z_law_46 (by decide) ?_
  refine lv_istore_n (lv' := [(3, .int (nI 3)), (2, .ref (q2 0)), (1, .ref (q 0)), (0, .ref b)]) hx hb d_Z_law_47 rfl hl (by decide) rfl (fun ls hl => ?_)
  refine law_loop ⟨hx, hb, hml, hown, hts, hK, hTb, hX, hbl, hL, g1, g2, g3, g4⟩ hD (fun ls H locs hS => ?_) L 3 ls H locs (cs0 N S le) (rs0 N S le) (by omega) (by omega) hl hP hS (RR0 le)
  refine lv_iconst (v := 1) hx hb d_Z_law_594 (by decide) ?_
  refine va_forget (fun q h => hS.2.2 q h) ?_
  refine W.widen (k := 600000) (n := 7302250) (by decide) (by decide) ?_
  exact lw_ret hx hb hr hlocks d_Z_law_595
-- ===== YOUR PART ENDS =====
set_option maxHeartbeats 4000000 in
theorem lw_walk (l : Launch) (b : Addr) (xs : List Int32) : MetFree l x (headSpec (Jvm.Cond.code x code maxLocals ret :: tables_1) room_1) (lw_P b xs) (fun _ _ _ _ _ => True) lw_Q := by
  refine MetFree.of_bodyS (code := code) (maxLocals := maxLocals) (ret := ret) (by decide) ?_ ?_
  · intro args s m h hn
    obtain ⟨meth, c, h1, h2, h3, h4, h5, h6, -, -⟩ := Cond.code_spec hn (atoms_spec (ws := Jvm.Cond.code x code maxLocals ret :: tables_1) h _ List.mem_cons_self)
    exact ⟨meth, c, h1, h2, h3, h4, h5, h6⟩
  · intro p e s m args below meth c s₁ B hml0 hP _
    obtain ⟨rfl, hx, hbd, hgv⟩ := hP
    obtain ⟨scr, harrAt, hlist, hof, hsmall⟩ := hx
    obtain ⟨hcb, hkn, -, -⟩ := State.arrayAt?_spec harrAt
    have hown : s.vm.findClass R_law = some m.cls := findClass_of_methodNamed B.named
    have hts0 : ∀ c ∈ (Jvm.Cond.code x code maxLocals ret :: tables_1), c.before #[Value.ref b] s = true := atoms_spec (ws := Jvm.Cond.code x code maxLocals ret :: tables_1) B.pre
    have hts : ∀ w ∈ lw_tbl, w.before #[Value.ref b] s = true := k2_hts_sels lw_privs (fun w hw => hts0 w (List.mem_cons_of_mem _ hw)) lw_privs_ok
    have hml : c.maxLocals = 4 := B.maxLocals_eq (hts0 _ List.mem_cons_self)
    have X₀ : Stand p l e room_1 s m #[Value.ref b] below meth c s₁ [] 0 0 := Stand.of_body B
    have hh0 : s₁.heap = s.heap := by rw [B.state]; rfl
    have hsz : scr.slots.size = xs.length := by rw [← Array.length_toList, hlist, List.length_map]
    have hval : ∀ j : Nat, j < xs.length → scr.slots[j]? = some (.int (xs.getD j 0)) := fun j hj => by
      rw [← Array.getElem?_toList, hlist]
      simp [hj]
    have hbl : b < s.heap.size := (Array.getElem?_eq_some_iff.mp hcb).1
    have hX : va_X b xs.length (fun j => xs.getD j 0) s s.heap := ⟨scr, hcb, hof, hkn, hsz, hval⟩
    have K : W p l e room_1 s m #[Value.ref b] below meth c s₁.heap [] 0 0 (lw_Z below #[Value.ref b] s) (entryFrame m ([Value.ref b] : List Value).toArray 4) := by
      rw [hh0]
      exact whole_start l hbd ⟨B.exec, B.bytes, B.returns, hml, hown, hts, hX, hbl, B.notSynchronized, hgv⟩
    obtain ⟨t, a1, o, b1, b2, b3⟩ := K s₁ rfl X₀
    exact ⟨t, o, a1, b1, b2, b3⟩
theorem lw_pre_spec {args : Array Value} {s : State} (h : (Jvm.Cond.and given_1 narrow_1).before args s = true) (hr : rest_1_c.before args s = true) : ∃ (b : Addr) (xs : List Int32), lw_P b xs args s := by
  have hs := flat_of_before _ h
  have hq := flat_of_before _ hr
  have hc : (Cond.count 1).before args s = true := hs _ (by decide +kernel)
  have harr : (Cond.arrayOf (.arg 0) .int).before args s = true := hs _ (by decide +kernel)
  have hle : (Cond.le (.length (.arg 0)) (.int 2051)).before args s = true := hs _ (by decide +kernel)
  have hlen : (Cond.isInt (.length (.arg 0))).before args s = true := hq _ (by decide +kernel)
  have hall : (Cond.all (.arg 0) (.isInt (.elem (.arg 0) (.index 0)))).before args s = true := hq _ (by decide +kernel)
  obtain ⟨b, xs, hb, hx⟩ := State.ints_of_pre rfl harr hlen hall
  have hsm : xs.length < 2 ^ 31 := hx.choose_spec.2.2.2
  have hev : (Term.length (.arg 0)).eval args s none [] s = some (.int xs.length.toInt32) := hx.length_eval hb
  have hv := Cond.le_ints hev (show (Term.int 2051).eval args s none [] s = some (.int 2051) from rfl)
  have hd : xs.length.toInt32 ≤ 2051 := by
    simpa [Cond.before, Cond.holds, hv] using hle
  have hN : xs.length ≤ 2051 := (Int32.ofNat_le_ofNat hsm (by decide)).mp (show Int32.ofNat xs.length ≤ Int32.ofNat 2051 from hd)
  exact ⟨b, xs, Cond.one_arg hc (show args[0]? = some (.ref b) from hb), hx, hN, h⟩
theorem lw_comes (l : Launch) : Comes l x (Jvm.Cond.code x code maxLocals ret :: tables_1) room_1 (fun tb e args s => Calls_1 tb e args s ∧ rest_1 tb e args s ∧ Pre_1 tb e args s)
    (fun _ _ args s o t => lw_Q args s o t) := by
  intro p e ha hc hk s m args below hf hfit hheap happ hpre
  obtain ⟨b, xs, hP⟩ := lw_pre_spec hpre.2.2 hpre.2.1
  obtain ⟨k, o, h1, h2, h3, hQ⟩ := lw_walk l b xs p e ha hc hk s m args below hf ((Spec.applies_iff_loose hf).mp happ).1 hP trivial
  exact ⟨k, o, h1, h2, h3, hQ⟩
theorem lw_frame {s t : State} {o : Outcome} {args : Array Value} (h : Framed s o t [] 600000 7302250) :
    Framed s o t (fieldLocs frame_1_writes args s ++ arrayLocs frame_1_arrays args s ++ staticLocs frame_1_statics s) 600000 7302250 := h
theorem lw_limb (L : Cond) (hL : ∀ (args : Array Value) (s t : State), L.after args s (.returned (some (.int 1))) t = true) :
    ArmFor flags0 classFile x code maxLocals ret World_1 tables_1 room_1 Calls_1 rest_1 Pre_1
      (fun tb e a s o t => postC L tb e a s o t ∧ Framed s o t (fieldLocs frame_1_writes a s ++ arrayLocs frame_1_arrays a s ++ staticLocs frame_1_statics s) 600000 7302250) := by
  intro l _ _ _ p e ha hc hk s m args below hf hfit hheap happ hpre
  obtain ⟨k, o, h1, h2, h3, rfl, hF⟩ := lw_comes l p e ha hc hk s m args below hf hfit hheap happ hpre
  exact ⟨k, _, h1, h2, h3, hL args s _, lw_frame hF⟩
theorem i_vc : Claimed_1_1 ∧ Claimed_1_2 := ⟨lw_limb limb_1_1 (fun args s t => by simp [limb_1_1, Cond.after, Cond.holds, Cond.value]), lw_limb limb_1_2 (fun args s t => Cond.after_iff.mpr (by
  first | (rw [show limb_1_2 = Cond.eq .result (.int 1) from rfl, Cond.eq_ints (x := 1) (y := 1) rfl rfl]; simp; done) | (simp [limb_1_2, Cond.value, Term.eval]; done)))⟩
