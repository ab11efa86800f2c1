/-! the law's world: the class's eight cells, then the reference's five; rows for its calls -/
abbrev wB (cA : ClassId) (q q2 : Nat → Nat) (N S : Nat) (z : CS) (r : RS) : va_W := wC cA q N S z ++ wM cA q2 N S r
abbrev lwA (s : State) : Nat → Prop := fun q => s.heap.size ≤ q
section LPre
variable {s : State} {H : Heap} {D : va_G} {cA : ClassId} {q q2 : Nat → Nat} {N S : Nat} {z : CS} {r : RS} {As : List Value} {A : Nat → Prop} {locs : List Loc}
theorem pAR (hP : va_P D vwCl (wB cA q q2 N S z r) H) (hK : va_K D vwCl [(cA, .int)] s) : PreV s H R_A (q 0) (va_Pc (.ref (q 0) :: As) (k_R D [(cA, .int)] (wC cA q N S z))) As := k_pR hP hK [0, 1, 2, 3, 4, 5, 6, 7] rfl 0 3 rfl rfl
theorem pAW (hP : va_P D vwCl (wB cA q q2 N S z r) H) (hK : va_K D vwCl [(cA, .int)] s) (hD : va_D A (wB cA q q2 N S z r)) : PreV s H R_A (q 0) (va_Pc (.ref (q 0) :: As) (k_Wc D [(cA, .int)] (wC cA q N S z))) As := k_pW hP hK hD [0, 1, 2, 3, 4, 5, 6, 7] (by decide) rfl 0 3 rfl rfl
theorem pAT (hP : va_P D vwCl (wB cA q q2 N S z r) H) (hK : va_K D vwCl [(cA, .int)] s) (hD : va_D A (wB cA q q2 N S z r)) (hT : k_Tb A s s.heap) (hS : va_S A s.heap H locs) : PreV s H R_A (q 0) (va_Pc (.ref (q 0) :: As) (k_WT D [(cA, .int)] (wC cA q N S z))) As := k_pT hP hK hD hT hS [0, 1, 2, 3, 4, 5, 6, 7] (by decide) rfl 0 3 rfl rfl
theorem pMR (hP : va_P D vwCl (wB cA q q2 N S z r) H) (hK : va_K D vwCl [(cA, .int)] s) : PreV s H R_M (q2 0) (va_Pc (.ref (q2 0) :: As) (k_R D [(cA, .int)] (wM cA q2 N S r))) As := k_pR hP hK [8, 9, 10, 11, 12] rfl 8 4 rfl rfl
theorem pMW (hP : va_P D vwCl (wB cA q q2 N S z r) H) (hK : va_K D vwCl [(cA, .int)] s) (hD : va_D A (wB cA q q2 N S z r)) : PreV s H R_M (q2 0) (va_Pc (.ref (q2 0) :: As) (k_Wc D [(cA, .int)] (wM cA q2 N S r))) As := k_pW hP hK hD [8, 9, 10, 11, 12] (by decide) rfl 8 4 rfl rfl
theorem k_sX {b L : Nat} {xs : Nat → Int32} (hX : va_X b L xs s s.heap) (hbl : b < s.heap.size) (hbA : ¬ A b) (hS : va_S A s.heap H locs) : PreS s H (va_Pc As (fun U => va_X b L xs U U.heap)) As :=
  ⟨fun a U g mk q => ⟨q.1, va_X.moved (u := U) (U := U.calling g mk a) (Vm.Alike.refl U.vm) q.2⟩, fun U hU hW => ⟨rfl, by show va_X b L xs U U.heap; rw [hU]; exact (hX.kept (hS.2.1 b hbl hbA)).moved hW.alike⟩⟩
end LPre
section LCall
variable {p : Program} {l : Launch} {e : Env} {R : Room} {s : State} {m : MethodId} {args : Array Value} {below : List Frame} {meth : Method} {c : Code} {H : Heap} {locs : List Loc} {cells slots : Nat} {Q : State → Prop}
variable {pc : Nat} {ls : Array Slot} {rest st0 : List Value} {a : Array Value} {D : va_G} {A0 : Nat → Prop} {H0 : Heap} {cA : ClassId} {q q2 : Nat → Nat} {N S : Nat} {z z1 : CS} {r r1 : RS}
theorem kA_i {v : Int32} (hr : va_Run p l e R s m args below meth c H locs cells slots 0 0 (F0 m pc ls st0) rest (va_Qi (fun (x : Int32) (_ : Unit) => x = v) (fun _ t => va_P D vwCl (wC cA q N S z1) t.heap) (k_A (wC cA q N S z)) a) (k_A (wC cA q N S z))) (hP : va_P D vwCl (wB cA q q2 N S z r) H) (hS : va_S A0 H0 H locs) (hD : va_D A0 (wB cA q q2 N S z r))
    (kk : ∀ (H1 : Heap) (locs1 : List Loc), va_P D vwCl (wB cA q q2 N S z1 r) H1 → va_D A0 (wB cA q q2 N S z1 r) → va_S A0 H0 H1 locs1 → W p l e R s m args below meth c H1 locs1 cells slots Q (F0 m (pc + 3) ls (.int v :: rest))) : W p l e R s m args below meth c H locs cells slots Q (F0 m pc ls st0) :=
  k_wri hr hS hD [0, 1, 2, 3, 4, 5, 6, 7] rfl (fun x u H1 locs1 hp hk hP1 hS1 => by
    subst hp
    exact kk H1 locs1 (k_bk hP hD [0, 1, 2, 3, 4, 5, 6, 7] [8, 9, 10, 11, 12] rfl (by decide) hk hP1 [5, 6, 7, 8, 9, 10, 11, 12, 0, 1, 2, 3, 4] rfl) (k_D hD rfl) hS1)
theorem kA_l {v : Int64} (hr : va_Run p l e R s m args below meth c H locs cells slots 0 0 (F0 m pc ls st0) rest (va_Ql (fun (x : Int64) (_ : Unit) => x = v) (fun _ t => va_P D vwCl (wC cA q N S z1) t.heap) (k_A (wC cA q N S z)) a) (k_A (wC cA q N S z))) (hP : va_P D vwCl (wB cA q q2 N S z r) H) (hS : va_S A0 H0 H locs) (hD : va_D A0 (wB cA q q2 N S z r))
    (kk : ∀ (H1 : Heap) (locs1 : List Loc), va_P D vwCl (wB cA q q2 N S z1 r) H1 → va_D A0 (wB cA q q2 N S z1 r) → va_S A0 H0 H1 locs1 → W p l e R s m args below meth c H1 locs1 cells slots Q (F0 m (pc + 3) ls (.long v :: rest))) : W p l e R s m args below meth c H locs cells slots Q (F0 m pc ls st0) :=
  k_wrl hr hS hD [0, 1, 2, 3, 4, 5, 6, 7] rfl (fun x u H1 locs1 hp hk hP1 hS1 => by
    subst hp
    exact kk H1 locs1 (k_bk hP hD [0, 1, 2, 3, 4, 5, 6, 7] [8, 9, 10, 11, 12] rfl (by decide) hk hP1 [5, 6, 7, 8, 9, 10, 11, 12, 0, 1, 2, 3, 4] rfl) (k_D hD rfl) hS1)
theorem kM_i {v : Int32} (hr : va_Run p l e R s m args below meth c H locs cells slots 0 0 (F0 m pc ls st0) rest (va_Qi (fun (x : Int32) (_ : Unit) => x = v) (fun _ t => va_P D vwCl (wM cA q2 N S r1) t.heap) (k_A (wM cA q2 N S r)) a) (k_A (wM cA q2 N S r))) (hP : va_P D vwCl (wB cA q q2 N S z r) H) (hS : va_S A0 H0 H locs) (hD : va_D A0 (wB cA q q2 N S z r))
    (kk : ∀ (H1 : Heap) (locs1 : List Loc), va_P D vwCl (wB cA q q2 N S z r1) H1 → va_D A0 (wB cA q q2 N S z r1) → va_S A0 H0 H1 locs1 → W p l e R s m args below meth c H1 locs1 cells slots Q (F0 m (pc + 3) ls (.int v :: rest))) : W p l e R s m args below meth c H locs cells slots Q (F0 m pc ls st0) :=
  k_wri hr hS hD [8, 9, 10, 11, 12] rfl (fun x u H1 locs1 hp hk hP1 hS1 => by
    subst hp
    exact kk H1 locs1 (k_bk hP hD [8, 9, 10, 11, 12] [0, 1, 2, 3, 4, 5, 6, 7] rfl (by decide) hk hP1 [0, 1, 2, 3, 4, 5, 6, 7, 8, 9, 10, 11, 12] rfl) (k_D hD rfl) hS1)
theorem kM_l {v : Int64} (hr : va_Run p l e R s m args below meth c H locs cells slots 0 0 (F0 m pc ls st0) rest (va_Ql (fun (x : Int64) (_ : Unit) => x = v) (fun _ t => va_P D vwCl (wM cA q2 N S r1) t.heap) (k_A (wM cA q2 N S r)) a) (k_A (wM cA q2 N S r))) (hP : va_P D vwCl (wB cA q q2 N S z r) H) (hS : va_S A0 H0 H locs) (hD : va_D A0 (wB cA q q2 N S z r))
    (kk : ∀ (H1 : Heap) (locs1 : List Loc), va_P D vwCl (wB cA q q2 N S z r1) H1 → va_D A0 (wB cA q q2 N S z r1) → va_S A0 H0 H1 locs1 → W p l e R s m args below meth c H1 locs1 cells slots Q (F0 m (pc + 3) ls (.long v :: rest))) : W p l e R s m args below meth c H locs cells slots Q (F0 m pc ls st0) :=
  k_wrl hr hS hD [8, 9, 10, 11, 12] rfl (fun x u H1 locs1 hp hk hP1 hS1 => by
    subst hp
    exact kk H1 locs1 (k_bk hP hD [8, 9, 10, 11, 12] [0, 1, 2, 3, 4, 5, 6, 7] rfl (by decide) hk hP1 [0, 1, 2, 3, 4, 5, 6, 7, 8, 9, 10, 11, 12] rfl) (k_D hD rfl) hS1)
end LCall
theorem rm_c : 13 + 0 ≤ room_1.cells := by decide +kernel
theorem rm_s : 419 + 0 ≤ room_1.slots := by decide +kernel
theorem lg_cmp_self (x : Int64) : lg_cmp x x = 0 := by
  have h : ¬ x < x := fun h => Int64.lt_irrefl h
  simp [lg_cmp, h]
/-- what the law's walk knows from its start -/
def LC (p : Program) (s : State) (m : MethodId) (c : Code) (D : va_G) (cA : ClassId) (N S b L : Nat) (xs : Nat → Int32) : Prop :=
  p.tables.exec = Jvm.exec ∧ c.code = code ∧ c.maxLocals = 4 ∧ s.vm.findClass R_Z = some m.cls ∧ (∀ w ∈ lw_g, w.before #[Value.ref b] s = true) ∧ va_K D vwCl [(cA, .int)] s ∧ k_Tb (lwA s) s s.heap ∧ va_X b L xs s s.heap ∧ b < s.heap.size ∧ L ≤ 2051 ∧ 4 ≤ N ∧ N ≤ 10 ∧ 1 ≤ S ∧ S ≤ 16
theorem RR_c {N S : Nat} {z : CS} {r : RS} (h : RR N S z r) : cLs z = -1 ∨ ∃ b, b < S ∧ cLs z = nI b := by
  rcases h.2.1 with h | ⟨⟨b, f, e, hb, _, _, hg⟩, _⟩
  · exact Or.inl h.1
  · exact Or.inr ⟨b, hb, hg.1⟩
theorem RR_m {N S : Nat} {z : CS} {r : RS} (h : RR N S z r) : rLs r = -1 ∨ ∃ b f e, b < S ∧ f ≤ e ∧ e ≤ N - 2 ∧ rLs r = nI b ∧ rLf r = nI f ∧ rLt r = nI e := by
  rcases h.2.1 with h | ⟨⟨b, f, e, hb, hf, he, hg⟩, _⟩
  · exact Or.inl h.2
  · exact Or.inr ⟨b, f, e, hb, hf, he, hg.2.1, hg.2.2.2.2.1, hg.2.2.2.2.2.1⟩
theorem RR_p {N S : Nat} {z : CS} {r : RS} (h : RR N S z r) : RPos N S (cP z) := h.2.2
theorem RR_q {N S : Nat} {z : CS} {r : RS} (h : RR N S z r) : RPos N S (rP r) := by
  obtain ⟨⟨_, _, _, _, _, _, _, h8, _⟩, _, h3⟩ := h
  rw [← h8]; exact h3
set_option maxHeartbeats 4000000 in
theorem c_Law_cell (l : Launch) (b L k : Nat) (xs : Nat → Int32) (hL : L ≤ 2051) (hk : k < 3) : Met l y_Z_cell w_Z_cell ({ frames := 0, cells := 0, slots := 0, locals := 0 }) (va_Pc [.ref b, .int (nI k)] (fun U => va_X b L xs U U.heap)) (k_Ro (some (.int (if k < L then xs k else 0)))) 0 0 (fun _ => False) := by
  refine Met.ofW (cc := b_Z_cell) (maxL := 2) (ret := (some .int)) (by decide) rfl ?_
  intro p e s m args below meth c s₁ B hml hv
  obtain ⟨rfl, hX0⟩ := hv
  have hX : va_X b L xs s s.heap := hX0
  have hx := B.exec
  have hb := B.bytes
  have hr := B.returns
  have hlocks := B.notSynchronized
  have hbl : b < s.heap.size := by
    obtain ⟨scr, h1, _⟩ := hX
    exact (Array.getElem?_eq_some_iff.mp h1).1
  have hS : va_S (fun _ => False) s.heap s.heap [] := va_S.rf
  have hl := lv_entry ([.ref b, .int (nI k)]) (n := 2) (Nat.le_of_ble_eq_true rfl)
  rw [lg_entry_eq]
  generalize (lg_sl ([.ref b, .int (nI k)]) ++ List.replicate (2 - (lg_sl ([.ref b, .int (nI k)])).length) Slot.unset).toArray = ls at hl ⊢
  have hl : lv_has ls 2 [(0, .ref b), (1, .int (nI k))] := hl
  refine lv_iload_n hx hb d_Z_cell_0 rfl (lv_at hl 1 rfl) ?_
  refine lv_aload_n hx hb d_Z_cell_1 rfl (lv_at hl 0 rfl) ?_
  refine va_slen hx hb hX hbl (fun h => h) hS d_Z_cell_2 ?_
  refine k_top (nI L) rfl ?_
  refine lv_icmp_ge (tgt := 12) hx hb d_Z_cell_3 rfl (fun g => ?_) (fun g => ?_)
  · have h9 : ¬ k < L := by have := (nI_leI (a := L) (b := k) (by omega) (by omega)).mp g; omega
    refine lv_iconst (v := 0) hx hb d_Z_cell_12 (by decide) ?_
    refine k_top (if k < L then xs k else 0) (by rw [if_neg h9]) ?_
    exact W.iret (v := if k < L then xs k else 0) hx hb hr (fun t ht hW => ⟨rfl, ht⟩) (fun _ h => by cases h) d_Z_cell_13
  · have h9 : k < L := by
      have : ¬ L ≤ k := fun z => g ((nI_leI (a := L) (b := k) (by omega) (by omega)).mpr z)
      omega
    refine lv_aload_n hx hb d_Z_cell_6 rfl (lv_at hl 0 rfl) ?_
    refine lv_iload_n hx hb d_Z_cell_7 rfl (lv_at hl 1 rfl) ?_
    refine va_sld hx hb hX hbl (fun h => h) hS (vp_in_nI h9 (by omega)) d_Z_cell_8 ?_
    refine lv_goto hx hb d_Z_cell_9 rfl ?_
    refine k_top (if k < L then xs k else 0) (by rw [if_pos h9, show (nI k).toNatClampNeg = k from nI_clamp (by omega)]) ?_
    exact W.iret (v := if k < L then xs k else 0) hx hb hr (fun t ht hW => ⟨rfl, ht⟩) (fun _ h => by cases h) d_Z_cell_13
set_option maxHeartbeats 4000000 in
set_option maxRecDepth 100000 in
theorem law_read {p : Program} {l : Launch} {e : Env} {s : State} {m : MethodId} {below : List Frame} {meth : Method} {c : Code} {H : Heap} {locs : List Loc} {Q : State → Prop} {D : va_G} {cA : ClassId} {q q2 : Nat → Nat} {N S b L i : Nat} {xs : Nat → Int32} {ls : Array Slot} {z : CS} {r : RS} (hC : LC p s m c D cA N S b L xs) (hi : i + 4 ≤ L) (hl : lv_has ls 4 [(3, .int (nI i)), (2, .ref (q2 0)), (1, .ref (q 0)), (0, .ref b)]) (hP : va_P D vwCl (wB cA q q2 N S z r) H) (hD : va_D (lwA s) (wB cA q q2 N S z r)) (hS : va_S (lwA s) s.heap H locs) (hR : RR N S z r)
    (K : ∀ (z1 : CS) (r1 : RS) (H1 : Heap) (locs1 : List Loc), va_P D vwCl (wB cA q q2 N S z1 r1) H1 → va_S (lwA s) s.heap H1 locs1 → RR N S z1 r1 → W p l e room_1 s m #[Value.ref b] below meth c H1 locs1 13 419 Q (F0 m 588 ls [])) : W p l e room_1 s m #[Value.ref b] below meth c H locs 13 419 Q (F0 m 156 ls []) := by
  obtain ⟨hx, hb, hml, hown, hts, hK, hTb, hX, hbl, hL, g1, g2, g3, g4⟩ := hC
  refine lv_aload_n hx hb d_Z_law_156 rfl (lv_at hl 2 rfl) ?_
  refine lv_aload_n hx hb d_Z_law_157 rfl (lv_at hl 3 rfl) ?_
  refine lv_iload_n hx hb d_Z_law_158 rfl (lv_at hl 0 rfl) ?_
  refine lv_iconst (v := 1) hx hb d_Z_law_159 (by decide) ?_
  refine lv_iadd hx hb d_Z_law_160 ?_
  refine k_top (nI (i + 1)) (nI_add i 1) ?_
  refine va_sld hx hb hX hbl (Nat.not_le.mpr hbl) hS (vp_in_nI (by omega) (by omega)) d_Z_law_161 ?_
  refine k_top (xs (i + 1)) (by rw [show (nI (i + 1)).toNatClampNeg = i + 1 from nI_clamp (by omega)]) ?_
  refine kA_l (va_runV (C := R_A) (As := [.int (xs (i + 1))]) (rest := []) ⟨hx, hb, hml, hown, hts⟩ (c_DualParityArray_read l D cA q N S z g1 g2 g3 g4 (xs (i + 1))) (k_cwV 1 hts m_code_A_read m_ini_A m_l_Z_21 m_inst_A_read m_sel_A_read h_A_read rfl rfl ⟨Nat.le_of_ble_eq_true rfl, Nat.le_of_ble_eq_true rfl⟩) (pAT hP hK hD hTb hS) rfl rfl hl.1 rfl (lv_room (Nat.le_of_ble_eq_true rfl)) d_Z_law_162 ⟨rm_c, rm_s⟩) hP hS hD (fun H locs hP hD hS => ?_)
  refine lv_aload_n hx hb d_Z_law_165 rfl (lv_at hl 1 rfl) ?_
  refine lv_aload_n hx hb d_Z_law_166 rfl (lv_at hl 3 rfl) ?_
  refine lv_iload_n hx hb d_Z_law_167 rfl (lv_at hl 0 rfl) ?_
  refine lv_iconst (v := 1) hx hb d_Z_law_168 (by decide) ?_
  refine lv_iadd hx hb d_Z_law_169 ?_
  refine k_top (nI (i + 1)) (nI_add i 1) ?_
  refine va_sld hx hb hX hbl (Nat.not_le.mpr hbl) hS (vp_in_nI (by omega) (by omega)) d_Z_law_170 ?_
  refine k_top (xs (i + 1)) (by rw [show (nI (i + 1)).toNatClampNeg = i + 1 from nI_clamp (by omega)]) ?_
  refine kM_l (va_runV (C := R_M) (As := [.int (xs (i + 1))]) (rest := [.long ((cRd N S (xs (i + 1)) z).1)]) ⟨hx, hb, hml, hown, hts⟩ (c_Model_read l D cA q2 N S r g1 g2 g3 g4 (xs (i + 1))) (k_cwV 1 hts m_code_M_read m_ini_M m_l_Z_25 m_inst_M_read m_sel_M_read h_M_read rfl rfl ⟨Nat.le_of_ble_eq_true rfl, Nat.le_of_ble_eq_true rfl⟩) (pMW hP hK hD) rfl rfl hl.1 rfl (lv_room (Nat.le_of_ble_eq_true rfl)) d_Z_law_171 ⟨rm_c, rm_s⟩) hP hS hD (fun H locs hP hD hS => ?_)
  refine k_topl ((cRd N S (xs (i + 1)) z).1) ((rd_eq g1 g2 g3 g4 hR).1).symm ?_
  refine W.lcmp hx hb d_Z_law_174 ?_
  refine k_top 0 (lg_cmp_self _) ?_
  refine lv_if_eq (tgt := 588) hx hb d_Z_law_175 rfl (fun g => ?_) (fun g => ?_)
  · exact K _ _ H locs hP hS (rd_eq g1 g2 g3 g4 hR).2
  · exact absurd rfl g
set_option maxHeartbeats 4000000 in
set_option maxRecDepth 100000 in
theorem law_write {p : Program} {l : Launch} {e : Env} {s : State} {m : MethodId} {below : List Frame} {meth : Method} {c : Code} {H : Heap} {locs : List Loc} {Q : State → Prop} {D : va_G} {cA : ClassId} {q q2 : Nat → Nat} {N S b L i : Nat} {xs : Nat → Int32} {ls : Array Slot} {z : CS} {r : RS} (hC : LC p s m c D cA N S b L xs) (hi : i + 4 ≤ L) (hl : lv_has ls 4 [(3, .int (nI i)), (2, .ref (q2 0)), (1, .ref (q 0)), (0, .ref b)]) (hP : va_P D vwCl (wB cA q q2 N S z r) H) (hD : va_D (lwA s) (wB cA q q2 N S z r)) (hS : va_S (lwA s) s.heap H locs) (hR : RR N S z r)
    (K : ∀ (z1 : CS) (r1 : RS) (H1 : Heap) (locs1 : List Loc), va_P D vwCl (wB cA q q2 N S z1 r1) H1 → va_S (lwA s) s.heap H1 locs1 → RR N S z1 r1 → W p l e room_1 s m #[Value.ref b] below meth c H1 locs1 13 419 Q (F0 m 588 ls [])) : W p l e room_1 s m #[Value.ref b] below meth c H locs 13 419 Q (F0 m 180 ls []) := by
  obtain ⟨hx, hb, hml, hown, hts, hK, hTb, hX, hbl, hL, g1, g2, g3, g4⟩ := hC
  refine lv_aload_n hx hb d_Z_law_180 rfl (lv_at hl 2 rfl) ?_
  refine lv_aload_n hx hb d_Z_law_181 rfl (lv_at hl 3 rfl) ?_
  refine lv_iload_n hx hb d_Z_law_182 rfl (lv_at hl 0 rfl) ?_
  refine lv_iconst (v := 1) hx hb d_Z_law_183 (by decide) ?_
  refine lv_iadd hx hb d_Z_law_184 ?_
  refine k_top (nI (i + 1)) (nI_add i 1) ?_
  refine va_sld hx hb hX hbl (Nat.not_le.mpr hbl) hS (vp_in_nI (by omega) (by omega)) d_Z_law_185 ?_
  refine k_top (xs (i + 1)) (by rw [show (nI (i + 1)).toNatClampNeg = i + 1 from nI_clamp (by omega)]) ?_
  refine lv_aload_n hx hb d_Z_law_186 rfl (lv_at hl 3 rfl) ?_
  refine lv_iload_n hx hb d_Z_law_187 rfl (lv_at hl 0 rfl) ?_
  refine lv_iconst (v := 2) hx hb d_Z_law_188 (by decide) ?_
  refine lv_iadd hx hb d_Z_law_189 ?_
  refine k_top (nI (i + 2)) (nI_add i 2) ?_
  refine va_sld hx hb hX hbl (Nat.not_le.mpr hbl) hS (vp_in_nI (by omega) (by omega)) d_Z_law_190 ?_
  refine k_top (xs (i + 2)) (by rw [show (nI (i + 2)).toNatClampNeg = i + 2 from nI_clamp (by omega)]) ?_
  refine kA_i (va_runV (C := R_A) (As := [.int (xs (i + 1)), .int (xs (i + 2))]) (rest := []) ⟨hx, hb, hml, hown, hts⟩ (c_DualParityArray_write l D cA q N S z g1 g2 g3 g4 (xs (i + 1)) (xs (i + 2))) (k_cwV 2 hts m_code_A_write m_ini_A m_l_Z_26 m_inst_A_write m_sel_A_write h_A_write rfl rfl ⟨Nat.le_of_ble_eq_true rfl, Nat.le_of_ble_eq_true rfl⟩) (pAT hP hK hD hTb hS) rfl rfl hl.1 rfl (lv_room (Nat.le_of_ble_eq_true rfl)) d_Z_law_191 ⟨rm_c, rm_s⟩) hP hS hD (fun H locs hP hD hS => ?_)
  refine lv_aload_n hx hb d_Z_law_194 rfl (lv_at hl 1 rfl) ?_
  refine lv_aload_n hx hb d_Z_law_195 rfl (lv_at hl 3 rfl) ?_
  refine lv_iload_n hx hb d_Z_law_196 rfl (lv_at hl 0 rfl) ?_
  refine lv_iconst (v := 1) hx hb d_Z_law_197 (by decide) ?_
  refine lv_iadd hx hb d_Z_law_198 ?_
  refine k_top (nI (i + 1)) (nI_add i 1) ?_
  refine va_sld hx hb hX hbl (Nat.not_le.mpr hbl) hS (vp_in_nI (by omega) (by omega)) d_Z_law_199 ?_
  refine k_top (xs (i + 1)) (by rw [show (nI (i + 1)).toNatClampNeg = i + 1 from nI_clamp (by omega)]) ?_
  refine lv_aload_n hx hb d_Z_law_200 rfl (lv_at hl 3 rfl) ?_
  refine lv_iload_n hx hb d_Z_law_201 rfl (lv_at hl 0 rfl) ?_
  refine lv_iconst (v := 2) hx hb d_Z_law_202 (by decide) ?_
  refine lv_iadd hx hb d_Z_law_203 ?_
  refine k_top (nI (i + 2)) (nI_add i 2) ?_
  refine va_sld hx hb hX hbl (Nat.not_le.mpr hbl) hS (vp_in_nI (by omega) (by omega)) d_Z_law_204 ?_
  refine k_top (xs (i + 2)) (by rw [show (nI (i + 2)).toNatClampNeg = i + 2 from nI_clamp (by omega)]) ?_
  refine kM_i (va_runV (C := R_M) (As := [.int (xs (i + 1)), .int (xs (i + 2))]) (rest := [.int ((cWRun N S (xs (i + 1)) 1 (xs (i + 2)) z).1)]) ⟨hx, hb, hml, hown, hts⟩ (c_Model_write l D cA q2 N S r g1 g2 g3 g4 (xs (i + 1)) (xs (i + 2))) (k_cwV 2 hts m_code_M_write m_ini_M m_l_Z_30 m_inst_M_write m_sel_M_write h_M_write rfl rfl ⟨Nat.le_of_ble_eq_true rfl, Nat.le_of_ble_eq_true rfl⟩) (pMW hP hK hD) rfl rfl hl.1 rfl (lv_room (Nat.le_of_ble_eq_true rfl)) d_Z_law_205 ⟨rm_c, rm_s⟩) hP hS hD (fun H locs hP hD hS => ?_)
  refine lv_icmp_eq (tgt := 588) hx hb d_Z_law_208 rfl (fun g => ?_) (fun g => ?_)
  · exact K _ _ H locs hP hS (wrun_eq g1 g2 g3 g4 hR).2
  · exact absurd ((wrun_eq g1 g2 g3 g4 hR).1) g
set_option maxHeartbeats 4000000 in
set_option maxRecDepth 100000 in
theorem law_writeRun {p : Program} {l : Launch} {e : Env} {s : State} {m : MethodId} {below : List Frame} {meth : Method} {c : Code} {H : Heap} {locs : List Loc} {Q : State → Prop} {D : va_G} {cA : ClassId} {q q2 : Nat → Nat} {N S b L i : Nat} {xs : Nat → Int32} {ls : Array Slot} {z : CS} {r : RS} (hC : LC p s m c D cA N S b L xs) (hi : i + 4 ≤ L) (hl : lv_has ls 4 [(3, .int (nI i)), (2, .ref (q2 0)), (1, .ref (q 0)), (0, .ref b)]) (hP : va_P D vwCl (wB cA q q2 N S z r) H) (hD : va_D (lwA s) (wB cA q q2 N S z r)) (hS : va_S (lwA s) s.heap H locs) (hR : RR N S z r)
    (K : ∀ (z1 : CS) (r1 : RS) (H1 : Heap) (locs1 : List Loc), va_P D vwCl (wB cA q q2 N S z1 r1) H1 → va_S (lwA s) s.heap H1 locs1 → RR N S z1 r1 → W p l e room_1 s m #[Value.ref b] below meth c H1 locs1 13 419 Q (F0 m 588 ls [])) : W p l e room_1 s m #[Value.ref b] below meth c H locs 13 419 Q (F0 m 213 ls []) := by
  obtain ⟨hx, hb, hml, hown, hts, hK, hTb, hX, hbl, hL, g1, g2, g3, g4⟩ := hC
  refine lv_aload_n hx hb d_Z_law_213 rfl (lv_at hl 2 rfl) ?_
  refine lv_aload_n hx hb d_Z_law_214 rfl (lv_at hl 3 rfl) ?_
  refine lv_iload_n hx hb d_Z_law_215 rfl (lv_at hl 0 rfl) ?_
  refine lv_iconst (v := 1) hx hb d_Z_law_216 (by decide) ?_
  refine lv_iadd hx hb d_Z_law_217 ?_
  refine k_top (nI (i + 1)) (nI_add i 1) ?_
  refine va_sld hx hb hX hbl (Nat.not_le.mpr hbl) hS (vp_in_nI (by omega) (by omega)) d_Z_law_218 ?_
  refine k_top (xs (i + 1)) (by rw [show (nI (i + 1)).toNatClampNeg = i + 1 from nI_clamp (by omega)]) ?_
  refine lv_aload_n hx hb d_Z_law_219 rfl (lv_at hl 3 rfl) ?_
  refine lv_iload_n hx hb d_Z_law_220 rfl (lv_at hl 0 rfl) ?_
  refine lv_iconst (v := 2) hx hb d_Z_law_221 (by decide) ?_
  refine lv_iadd hx hb d_Z_law_222 ?_
  refine k_top (nI (i + 2)) (nI_add i 2) ?_
  refine va_sld hx hb hX hbl (Nat.not_le.mpr hbl) hS (vp_in_nI (by omega) (by omega)) d_Z_law_223 ?_
  refine k_top (xs (i + 2)) (by rw [show (nI (i + 2)).toNatClampNeg = i + 2 from nI_clamp (by omega)]) ?_
  refine lv_aload_n hx hb d_Z_law_224 rfl (lv_at hl 3 rfl) ?_
  refine lv_iload_n hx hb d_Z_law_225 rfl (lv_at hl 0 rfl) ?_
  refine lv_iconst (v := 3) hx hb d_Z_law_226 (by decide) ?_
  refine lv_iadd hx hb d_Z_law_227 ?_
  refine k_top (nI (i + 3)) (nI_add i 3) ?_
  refine va_sld hx hb hX hbl (Nat.not_le.mpr hbl) hS (vp_in_nI (by omega) (by omega)) d_Z_law_228 ?_
  refine k_top (xs (i + 3)) (by rw [show (nI (i + 3)).toNatClampNeg = i + 3 from nI_clamp (by omega)]) ?_
  refine kA_i (va_runV (C := R_A) (As := [.int (xs (i + 1)), .int (xs (i + 2)), .int (xs (i + 3))]) (rest := []) ⟨hx, hb, hml, hown, hts⟩ (c_DualParityArray_writeRun l D cA q N S z g1 g2 g3 g4 (xs (i + 1)) (xs (i + 2)) (xs (i + 3))) (k_cwV 3 hts m_code_A_writeRun m_ini_A m_l_Z_31 m_inst_A_writeRun m_sel_A_writeRun h_A_writeRun rfl rfl ⟨Nat.le_of_ble_eq_true rfl, Nat.le_of_ble_eq_true rfl⟩) (pAT hP hK hD hTb hS) rfl rfl hl.1 rfl (lv_room (Nat.le_of_ble_eq_true rfl)) d_Z_law_229 ⟨rm_c, rm_s⟩) hP hS hD (fun H locs hP hD hS => ?_)
  refine lv_aload_n hx hb d_Z_law_232 rfl (lv_at hl 1 rfl) ?_
  refine lv_aload_n hx hb d_Z_law_233 rfl (lv_at hl 3 rfl) ?_
  refine lv_iload_n hx hb d_Z_law_234 rfl (lv_at hl 0 rfl) ?_
  refine lv_iconst (v := 1) hx hb d_Z_law_235 (by decide) ?_
  refine lv_iadd hx hb d_Z_law_236 ?_
  refine k_top (nI (i + 1)) (nI_add i 1) ?_
  refine va_sld hx hb hX hbl (Nat.not_le.mpr hbl) hS (vp_in_nI (by omega) (by omega)) d_Z_law_237 ?_
  refine k_top (xs (i + 1)) (by rw [show (nI (i + 1)).toNatClampNeg = i + 1 from nI_clamp (by omega)]) ?_
  refine lv_aload_n hx hb d_Z_law_238 rfl (lv_at hl 3 rfl) ?_
  refine lv_iload_n hx hb d_Z_law_239 rfl (lv_at hl 0 rfl) ?_
  refine lv_iconst (v := 2) hx hb d_Z_law_240 (by decide) ?_
  refine lv_iadd hx hb d_Z_law_241 ?_
  refine k_top (nI (i + 2)) (nI_add i 2) ?_
  refine va_sld hx hb hX hbl (Nat.not_le.mpr hbl) hS (vp_in_nI (by omega) (by omega)) d_Z_law_242 ?_
  refine k_top (xs (i + 2)) (by rw [show (nI (i + 2)).toNatClampNeg = i + 2 from nI_clamp (by omega)]) ?_
  refine lv_aload_n hx hb d_Z_law_243 rfl (lv_at hl 3 rfl) ?_
  refine lv_iload_n hx hb d_Z_law_244 rfl (lv_at hl 0 rfl) ?_
  refine lv_iconst (v := 3) hx hb d_Z_law_245 (by decide) ?_
  refine lv_iadd hx hb d_Z_law_246 ?_
  refine k_top (nI (i + 3)) (nI_add i 3) ?_
  refine va_sld hx hb hX hbl (Nat.not_le.mpr hbl) hS (vp_in_nI (by omega) (by omega)) d_Z_law_247 ?_
  refine k_top (xs (i + 3)) (by rw [show (nI (i + 3)).toNatClampNeg = i + 3 from nI_clamp (by omega)]) ?_
  refine kM_i (va_runV (C := R_M) (As := [.int (xs (i + 1)), .int (xs (i + 2)), .int (xs (i + 3))]) (rest := [.int ((cWRun N S (xs (i + 1)) (xs (i + 2)) (xs (i + 3)) z).1)]) ⟨hx, hb, hml, hown, hts⟩ (c_Model_writeRun l D cA q2 N S r g1 g2 g3 g4 (xs (i + 1)) (xs (i + 2)) (xs (i + 3))) (k_cwV 3 hts m_code_M_writeRun m_ini_M m_l_Z_35 m_inst_M_writeRun m_sel_M_writeRun h_M_writeRun rfl rfl ⟨Nat.le_of_ble_eq_true rfl, Nat.le_of_ble_eq_true rfl⟩) (pMW hP hK hD) rfl rfl hl.1 rfl (lv_room (Nat.le_of_ble_eq_true rfl)) d_Z_law_248 ⟨rm_c, rm_s⟩) hP hS hD (fun H locs hP hD hS => ?_)
  refine lv_icmp_eq (tgt := 588) hx hb d_Z_law_251 rfl (fun g => ?_) (fun g => ?_)
  · exact K _ _ H locs hP hS (wrun_eq g1 g2 g3 g4 hR).2
  · exact absurd ((wrun_eq g1 g2 g3 g4 hR).1) g
set_option maxHeartbeats 4000000 in
set_option maxRecDepth 100000 in
theorem law_fail {p : Program} {l : Launch} {e : Env} {s : State} {m : MethodId} {below : List Frame} {meth : Method} {c : Code} {H : Heap} {locs : List Loc} {Q : State → Prop} {D : va_G} {cA : ClassId} {q q2 : Nat → Nat} {N S b L i : Nat} {xs : Nat → Int32} {ls : Array Slot} {z : CS} {r : RS} (hC : LC p s m c D cA N S b L xs) (hi : i + 4 ≤ L) (hl : lv_has ls 4 [(3, .int (nI i)), (2, .ref (q2 0)), (1, .ref (q 0)), (0, .ref b)]) (hP : va_P D vwCl (wB cA q q2 N S z r) H) (hD : va_D (lwA s) (wB cA q q2 N S z r)) (hS : va_S (lwA s) s.heap H locs) (hR : RR N S z r)
    (K : ∀ (z1 : CS) (r1 : RS) (H1 : Heap) (locs1 : List Loc), va_P D vwCl (wB cA q q2 N S z1 r1) H1 → va_S (lwA s) s.heap H1 locs1 → RR N S z1 r1 → W p l e room_1 s m #[Value.ref b] below meth c H1 locs1 13 419 Q (F0 m 588 ls [])) : W p l e room_1 s m #[Value.ref b] below meth c H locs 13 419 Q (F0 m 256 ls []) := by
  obtain ⟨hx, hb, hml, hown, hts, hK, hTb, hX, hbl, hL, g1, g2, g3, g4⟩ := hC
  refine lv_aload_n hx hb d_Z_law_256 rfl (lv_at hl 2 rfl) ?_
  refine lv_aload_n hx hb d_Z_law_257 rfl (lv_at hl 3 rfl) ?_
  refine lv_iload_n hx hb d_Z_law_258 rfl (lv_at hl 0 rfl) ?_
  refine lv_iconst (v := 1) hx hb d_Z_law_259 (by decide) ?_
  refine lv_iadd hx hb d_Z_law_260 ?_
  refine k_top (nI (i + 1)) (nI_add i 1) ?_
  refine va_sld hx hb hX hbl (Nat.not_le.mpr hbl) hS (vp_in_nI (by omega) (by omega)) d_Z_law_261 ?_
  refine k_top (xs (i + 1)) (by rw [show (nI (i + 1)).toNatClampNeg = i + 1 from nI_clamp (by omega)]) ?_
  refine kA_i (va_runV (C := R_A) (As := [.int (xs (i + 1))]) (rest := []) ⟨hx, hb, hml, hown, hts⟩ (c_DualParityArray_fail l D cA q N S z g1 g2 g3 g4 (xs (i + 1))) (k_cwV 1 hts m_code_A_fail m_ini_A m_l_Z_36 m_inst_A_fail m_sel_A_fail h_A_fail rfl rfl ⟨Nat.le_of_ble_eq_true rfl, Nat.le_of_ble_eq_true rfl⟩) (pAW hP hK hD) rfl rfl hl.1 rfl (lv_room (Nat.le_of_ble_eq_true rfl)) d_Z_law_262 ⟨rm_c, rm_s⟩) hP hS hD (fun H locs hP hD hS => ?_)
  refine lv_aload_n hx hb d_Z_law_265 rfl (lv_at hl 1 rfl) ?_
  refine lv_aload_n hx hb d_Z_law_266 rfl (lv_at hl 3 rfl) ?_
  refine lv_iload_n hx hb d_Z_law_267 rfl (lv_at hl 0 rfl) ?_
  refine lv_iconst (v := 1) hx hb d_Z_law_268 (by decide) ?_
  refine lv_iadd hx hb d_Z_law_269 ?_
  refine k_top (nI (i + 1)) (nI_add i 1) ?_
  refine va_sld hx hb hX hbl (Nat.not_le.mpr hbl) hS (vp_in_nI (by omega) (by omega)) d_Z_law_270 ?_
  refine k_top (xs (i + 1)) (by rw [show (nI (i + 1)).toNatClampNeg = i + 1 from nI_clamp (by omega)]) ?_
  refine kM_i (va_runV (C := R_M) (As := [.int (xs (i + 1))]) (rest := [.int (bi (cFail N (xs (i + 1)) z).1)]) ⟨hx, hb, hml, hown, hts⟩ (c_Model_fail l D cA q2 N S r g1 g2 g3 g4 (xs (i + 1))) (k_cwV 1 hts m_code_M_fail m_ini_M m_l_Z_40 m_inst_M_fail m_sel_M_fail h_M_fail rfl rfl ⟨Nat.le_of_ble_eq_true rfl, Nat.le_of_ble_eq_true rfl⟩) (pMW hP hK hD) rfl rfl hl.1 rfl (lv_room (Nat.le_of_ble_eq_true rfl)) d_Z_law_271 ⟨rm_c, rm_s⟩) hP hS hD (fun H locs hP hD hS => ?_)
  refine lv_icmp_eq (tgt := 588) hx hb d_Z_law_274 rfl (fun g => ?_) (fun g => ?_)
  · exact K _ _ H locs hP hS (fail_eq g1 g2 g4 hR).2
  · exact absurd (congrArg bi (fail_eq g1 g2 g4 hR).1) g
set_option maxHeartbeats 4000000 in
set_option maxRecDepth 100000 in
theorem law_replace {p : Program} {l : Launch} {e : Env} {s : State} {m : MethodId} {below : List Frame} {meth : Method} {c : Code} {H : Heap} {locs : List Loc} {Q : State → Prop} {D : va_G} {cA : ClassId} {q q2 : Nat → Nat} {N S b L i : Nat} {xs : Nat → Int32} {ls : Array Slot} {z : CS} {r : RS} (hC : LC p s m c D cA N S b L xs) (hi : i + 4 ≤ L) (hl : lv_has ls 4 [(3, .int (nI i)), (2, .ref (q2 0)), (1, .ref (q 0)), (0, .ref b)]) (hP : va_P D vwCl (wB cA q q2 N S z r) H) (hD : va_D (lwA s) (wB cA q q2 N S z r)) (hS : va_S (lwA s) s.heap H locs) (hR : RR N S z r)
    (K : ∀ (z1 : CS) (r1 : RS) (H1 : Heap) (locs1 : List Loc), va_P D vwCl (wB cA q q2 N S z1 r1) H1 → va_S (lwA s) s.heap H1 locs1 → RR N S z1 r1 → W p l e room_1 s m #[Value.ref b] below meth c H1 locs1 13 419 Q (F0 m 588 ls [])) : W p l e room_1 s m #[Value.ref b] below meth c H locs 13 419 Q (F0 m 279 ls []) := by
  obtain ⟨hx, hb, hml, hown, hts, hK, hTb, hX, hbl, hL, g1, g2, g3, g4⟩ := hC
  refine lv_aload_n hx hb d_Z_law_279 rfl (lv_at hl 2 rfl) ?_
  refine lv_aload_n hx hb d_Z_law_280 rfl (lv_at hl 3 rfl) ?_
  refine lv_iload_n hx hb d_Z_law_281 rfl (lv_at hl 0 rfl) ?_
  refine lv_iconst (v := 1) hx hb d_Z_law_282 (by decide) ?_
  refine lv_iadd hx hb d_Z_law_283 ?_
  refine k_top (nI (i + 1)) (nI_add i 1) ?_
  refine va_sld hx hb hX hbl (Nat.not_le.mpr hbl) hS (vp_in_nI (by omega) (by omega)) d_Z_law_284 ?_
  refine k_top (xs (i + 1)) (by rw [show (nI (i + 1)).toNatClampNeg = i + 1 from nI_clamp (by omega)]) ?_
  refine kA_i (va_runV (C := R_A) (As := [.int (xs (i + 1))]) (rest := []) ⟨hx, hb, hml, hown, hts⟩ (c_DualParityArray_replace l D cA q N S z g1 g2 g3 g4 (xs (i + 1))) (k_cwV 1 hts m_code_A_replace m_ini_A m_l_Z_41 m_inst_A_replace m_sel_A_replace h_A_replace rfl rfl ⟨Nat.le_of_ble_eq_true rfl, Nat.le_of_ble_eq_true rfl⟩) (pAW hP hK hD) rfl rfl hl.1 rfl (lv_room (Nat.le_of_ble_eq_true rfl)) d_Z_law_285 ⟨rm_c, rm_s⟩) hP hS hD (fun H locs hP hD hS => ?_)
  refine lv_aload_n hx hb d_Z_law_288 rfl (lv_at hl 1 rfl) ?_
  refine lv_aload_n hx hb d_Z_law_289 rfl (lv_at hl 3 rfl) ?_
  refine lv_iload_n hx hb d_Z_law_290 rfl (lv_at hl 0 rfl) ?_
  refine lv_iconst (v := 1) hx hb d_Z_law_291 (by decide) ?_
  refine lv_iadd hx hb d_Z_law_292 ?_
  refine k_top (nI (i + 1)) (nI_add i 1) ?_
  refine va_sld hx hb hX hbl (Nat.not_le.mpr hbl) hS (vp_in_nI (by omega) (by omega)) d_Z_law_293 ?_
  refine k_top (xs (i + 1)) (by rw [show (nI (i + 1)).toNatClampNeg = i + 1 from nI_clamp (by omega)]) ?_
  refine kM_i (va_runV (C := R_M) (As := [.int (xs (i + 1))]) (rest := [.int (bi (cRepl N (xs (i + 1)) z).1)]) ⟨hx, hb, hml, hown, hts⟩ (c_Model_replace l D cA q2 N S r g1 g2 g3 g4 (xs (i + 1))) (k_cwV 1 hts m_code_M_replace m_ini_M m_l_Z_44 m_inst_M_replace m_sel_M_replace h_M_replace rfl rfl ⟨Nat.le_of_ble_eq_true rfl, Nat.le_of_ble_eq_true rfl⟩) (pMW hP hK hD) rfl rfl hl.1 rfl (lv_room (Nat.le_of_ble_eq_true rfl)) d_Z_law_294 ⟨rm_c, rm_s⟩) hP hS hD (fun H locs hP hD hS => ?_)
  refine lv_icmp_eq (tgt := 588) hx hb d_Z_law_297 rfl (fun g => ?_) (fun g => ?_)
  · exact K _ _ H locs hP hS (repl_eq g1 g2 g4 hR).2
  · exact absurd (congrArg bi (repl_eq g1 g2 g4 hR).1) g
set_option maxHeartbeats 4000000 in
set_option maxRecDepth 100000 in
theorem law_rebuild {p : Program} {l : Launch} {e : Env} {s : State} {m : MethodId} {below : List Frame} {meth : Method} {c : Code} {H : Heap} {locs : List Loc} {Q : State → Prop} {D : va_G} {cA : ClassId} {q q2 : Nat → Nat} {N S b L i : Nat} {xs : Nat → Int32} {ls : Array Slot} {z : CS} {r : RS} (hC : LC p s m c D cA N S b L xs) (hi : i + 4 ≤ L) (hl : lv_has ls 4 [(3, .int (nI i)), (2, .ref (q2 0)), (1, .ref (q 0)), (0, .ref b)]) (hP : va_P D vwCl (wB cA q q2 N S z r) H) (hD : va_D (lwA s) (wB cA q q2 N S z r)) (hS : va_S (lwA s) s.heap H locs) (hR : RR N S z r)
    (K : ∀ (z1 : CS) (r1 : RS) (H1 : Heap) (locs1 : List Loc), va_P D vwCl (wB cA q q2 N S z1 r1) H1 → va_S (lwA s) s.heap H1 locs1 → RR N S z1 r1 → W p l e room_1 s m #[Value.ref b] below meth c H1 locs1 13 419 Q (F0 m 588 ls [])) : W p l e room_1 s m #[Value.ref b] below meth c H locs 13 419 Q (F0 m 302 ls []) := by
  obtain ⟨hx, hb, hml, hown, hts, hK, hTb, hX, hbl, hL, g1, g2, g3, g4⟩ := hC
  refine lv_aload_n hx hb d_Z_law_302 rfl (lv_at hl 2 rfl) ?_
  refine kA_i (va_runV (C := R_A) (As := []) (rest := []) ⟨hx, hb, hml, hown, hts⟩ (c_DualParityArray_rebuild l D cA q N S z g1 g2 g3 g4 (RR_p hR)) (k_cwV 0 hts m_code_A_rebuild m_ini_A m_l_Z_45 m_inst_A_rebuild m_sel_A_rebuild h_A_rebuild rfl rfl ⟨Nat.le_of_ble_eq_true rfl, Nat.le_of_ble_eq_true rfl⟩) (pAT hP hK hD hTb hS) rfl rfl hl.1 rfl (lv_room (Nat.le_of_ble_eq_true rfl)) d_Z_law_303 ⟨rm_c, rm_s⟩) hP hS hD (fun H locs hP hD hS => ?_)
  refine lv_aload_n hx hb d_Z_law_306 rfl (lv_at hl 1 rfl) ?_
  refine kM_i (va_runV (C := R_M) (As := []) (rest := [.int ((cRb N S z).1)]) ⟨hx, hb, hml, hown, hts⟩ (c_Model_rebuild l D cA q2 N S r g1 g2 g3 g4 (RR_q hR)) (k_cwV 0 hts m_code_M_rebuild m_ini_M m_l_Z_49 m_inst_M_rebuild m_sel_M_rebuild h_M_rebuild rfl rfl ⟨Nat.le_of_ble_eq_true rfl, Nat.le_of_ble_eq_true rfl⟩) (pMW hP hK hD) rfl rfl hl.1 rfl (lv_room (Nat.le_of_ble_eq_true rfl)) d_Z_law_307 ⟨rm_c, rm_s⟩) hP hS hD (fun H locs hP hD hS => ?_)
  refine lv_icmp_eq (tgt := 588) hx hb d_Z_law_310 rfl (fun g => ?_) (fun g => ?_)
  · exact K _ _ H locs hP hS (rb_eq g1 g2 g3 g4 hR).2
  · exact absurd ((rb_eq g1 g2 g3 g4 hR).1) g
set_option maxHeartbeats 4000000 in
set_option maxRecDepth 100000 in
theorem law_scrub {p : Program} {l : Launch} {e : Env} {s : State} {m : MethodId} {below : List Frame} {meth : Method} {c : Code} {H : Heap} {locs : List Loc} {Q : State → Prop} {D : va_G} {cA : ClassId} {q q2 : Nat → Nat} {N S b L i : Nat} {xs : Nat → Int32} {ls : Array Slot} {z : CS} {r : RS} (hC : LC p s m c D cA N S b L xs) (hi : i + 4 ≤ L) (hl : lv_has ls 4 [(3, .int (nI i)), (2, .ref (q2 0)), (1, .ref (q 0)), (0, .ref b)]) (hP : va_P D vwCl (wB cA q q2 N S z r) H) (hD : va_D (lwA s) (wB cA q q2 N S z r)) (hS : va_S (lwA s) s.heap H locs) (hR : RR N S z r)
    (K : ∀ (z1 : CS) (r1 : RS) (H1 : Heap) (locs1 : List Loc), va_P D vwCl (wB cA q q2 N S z1 r1) H1 → va_S (lwA s) s.heap H1 locs1 → RR N S z1 r1 → W p l e room_1 s m #[Value.ref b] below meth c H1 locs1 13 419 Q (F0 m 588 ls [])) : W p l e room_1 s m #[Value.ref b] below meth c H locs 13 419 Q (F0 m 315 ls []) := by
  obtain ⟨hx, hb, hml, hown, hts, hK, hTb, hX, hbl, hL, g1, g2, g3, g4⟩ := hC
  refine lv_aload_n hx hb d_Z_law_315 rfl (lv_at hl 2 rfl) ?_
  refine lv_aload_n hx hb d_Z_law_316 rfl (lv_at hl 3 rfl) ?_
  refine lv_iload_n hx hb d_Z_law_317 rfl (lv_at hl 0 rfl) ?_
  refine lv_iconst (v := 1) hx hb d_Z_law_318 (by decide) ?_
  refine lv_iadd hx hb d_Z_law_319 ?_
  refine k_top (nI (i + 1)) (nI_add i 1) ?_
  refine va_sld hx hb hX hbl (Nat.not_le.mpr hbl) hS (vp_in_nI (by omega) (by omega)) d_Z_law_320 ?_
  refine k_top (xs (i + 1)) (by rw [show (nI (i + 1)).toNatClampNeg = i + 1 from nI_clamp (by omega)]) ?_
  refine kA_i (va_runV (C := R_A) (As := [.int (xs (i + 1))]) (rest := []) ⟨hx, hb, hml, hown, hts⟩ (c_DualParityArray_scrub l D cA q N S z g1 g2 g3 g4 (xs (i + 1))) (k_cwV 1 hts m_code_A_scrub m_ini_A m_l_Z_50 m_inst_A_scrub m_sel_A_scrub h_A_scrub rfl rfl ⟨Nat.le_of_ble_eq_true rfl, Nat.le_of_ble_eq_true rfl⟩) (pAT hP hK hD hTb hS) rfl rfl hl.1 rfl (lv_room (Nat.le_of_ble_eq_true rfl)) d_Z_law_321 ⟨rm_c, rm_s⟩) hP hS hD (fun H locs hP hD hS => ?_)
  refine lv_aload_n hx hb d_Z_law_324 rfl (lv_at hl 1 rfl) ?_
  refine lv_aload_n hx hb d_Z_law_325 rfl (lv_at hl 3 rfl) ?_
  refine lv_iload_n hx hb d_Z_law_326 rfl (lv_at hl 0 rfl) ?_
  refine lv_iconst (v := 1) hx hb d_Z_law_327 (by decide) ?_
  refine lv_iadd hx hb d_Z_law_328 ?_
  refine k_top (nI (i + 1)) (nI_add i 1) ?_
  refine va_sld hx hb hX hbl (Nat.not_le.mpr hbl) hS (vp_in_nI (by omega) (by omega)) d_Z_law_329 ?_
  refine k_top (xs (i + 1)) (by rw [show (nI (i + 1)).toNatClampNeg = i + 1 from nI_clamp (by omega)]) ?_
  refine kM_i (va_runV (C := R_M) (As := [.int (xs (i + 1))]) (rest := [.int ((cSc N S (xs (i + 1)) z).1)]) ⟨hx, hb, hml, hown, hts⟩ (c_Model_scrub l D cA q2 N S r g1 g2 g3 g4 (xs (i + 1))) (k_cwV 1 hts m_code_M_scrub m_ini_M m_l_Z_54 m_inst_M_scrub m_sel_M_scrub h_M_scrub rfl rfl ⟨Nat.le_of_ble_eq_true rfl, Nat.le_of_ble_eq_true rfl⟩) (pMW hP hK hD) rfl rfl hl.1 rfl (lv_room (Nat.le_of_ble_eq_true rfl)) d_Z_law_330 ⟨rm_c, rm_s⟩) hP hS hD (fun H locs hP hD hS => ?_)
  refine lv_icmp_eq (tgt := 588) hx hb d_Z_law_333 rfl (fun g => ?_) (fun g => ?_)
  · exact K _ _ H locs hP hS (scr_eq g1 g2 g3 g4 hR).2
  · exact absurd ((scr_eq g1 g2 g3 g4 hR).1) g
set_option maxHeartbeats 4000000 in
set_option maxRecDepth 100000 in
theorem law_corrupt {p : Program} {l : Launch} {e : Env} {s : State} {m : MethodId} {below : List Frame} {meth : Method} {c : Code} {H : Heap} {locs : List Loc} {Q : State → Prop} {D : va_G} {cA : ClassId} {q q2 : Nat → Nat} {N S b L i : Nat} {xs : Nat → Int32} {ls : Array Slot} {z : CS} {r : RS} (hC : LC p s m c D cA N S b L xs) (hi : i + 4 ≤ L) (hl : lv_has ls 4 [(3, .int (nI i)), (2, .ref (q2 0)), (1, .ref (q 0)), (0, .ref b)]) (hP : va_P D vwCl (wB cA q q2 N S z r) H) (hD : va_D (lwA s) (wB cA q q2 N S z r)) (hS : va_S (lwA s) s.heap H locs) (hR : RR N S z r)
    (K : ∀ (z1 : CS) (r1 : RS) (H1 : Heap) (locs1 : List Loc), va_P D vwCl (wB cA q q2 N S z1 r1) H1 → va_S (lwA s) s.heap H1 locs1 → RR N S z1 r1 → W p l e room_1 s m #[Value.ref b] below meth c H1 locs1 13 419 Q (F0 m 588 ls [])) : W p l e room_1 s m #[Value.ref b] below meth c H locs 13 419 Q (F0 m 338 ls []) := by
  obtain ⟨hx, hb, hml, hown, hts, hK, hTb, hX, hbl, hL, g1, g2, g3, g4⟩ := hC
  refine lv_aload_n hx hb d_Z_law_338 rfl (lv_at hl 2 rfl) ?_
  refine lv_aload_n hx hb d_Z_law_339 rfl (lv_at hl 3 rfl) ?_
  refine lv_iload_n hx hb d_Z_law_340 rfl (lv_at hl 0 rfl) ?_
  refine lv_iconst (v := 1) hx hb d_Z_law_341 (by decide) ?_
  refine lv_iadd hx hb d_Z_law_342 ?_
  refine k_top (nI (i + 1)) (nI_add i 1) ?_
  refine va_sld hx hb hX hbl (Nat.not_le.mpr hbl) hS (vp_in_nI (by omega) (by omega)) d_Z_law_343 ?_
  refine k_top (xs (i + 1)) (by rw [show (nI (i + 1)).toNatClampNeg = i + 1 from nI_clamp (by omega)]) ?_
  refine lv_aload_n hx hb d_Z_law_344 rfl (lv_at hl 3 rfl) ?_
  refine lv_iload_n hx hb d_Z_law_345 rfl (lv_at hl 0 rfl) ?_
  refine lv_iconst (v := 2) hx hb d_Z_law_346 (by decide) ?_
  refine lv_iadd hx hb d_Z_law_347 ?_
  refine k_top (nI (i + 2)) (nI_add i 2) ?_
  refine va_sld hx hb hX hbl (Nat.not_le.mpr hbl) hS (vp_in_nI (by omega) (by omega)) d_Z_law_348 ?_
  refine k_top (xs (i + 2)) (by rw [show (nI (i + 2)).toNatClampNeg = i + 2 from nI_clamp (by omega)]) ?_
  refine lv_aload_n hx hb d_Z_law_349 rfl (lv_at hl 3 rfl) ?_
  refine lv_iload_n hx hb d_Z_law_350 rfl (lv_at hl 0 rfl) ?_
  refine lv_iconst (v := 3) hx hb d_Z_law_351 (by decide) ?_
  refine lv_iadd hx hb d_Z_law_352 ?_
  refine k_top (nI (i + 3)) (nI_add i 3) ?_
  refine va_sld hx hb hX hbl (Nat.not_le.mpr hbl) hS (vp_in_nI (by omega) (by omega)) d_Z_law_353 ?_
  refine k_top (xs (i + 3)) (by rw [show (nI (i + 3)).toNatClampNeg = i + 3 from nI_clamp (by omega)]) ?_
  refine kA_i (va_runV (C := R_A) (As := [.int (xs (i + 1)), .int (xs (i + 2)), .int (xs (i + 3))]) (rest := []) ⟨hx, hb, hml, hown, hts⟩ (c_DualParityArray_corrupt l D cA q N S z g1 g2 g3 g4 (xs (i + 1)) (xs (i + 2)) (xs (i + 3))) (k_cwV 3 hts m_code_A_corrupt m_ini_A m_l_Z_55 m_inst_A_corrupt m_sel_A_corrupt h_A_corrupt rfl rfl ⟨Nat.le_of_ble_eq_true rfl, Nat.le_of_ble_eq_true rfl⟩) (pAW hP hK hD) rfl rfl hl.1 rfl (lv_room (Nat.le_of_ble_eq_true rfl)) d_Z_law_354 ⟨rm_c, rm_s⟩) hP hS hD (fun H locs hP hD hS => ?_)
  refine lv_aload_n hx hb d_Z_law_357 rfl (lv_at hl 1 rfl) ?_
  refine lv_aload_n hx hb d_Z_law_358 rfl (lv_at hl 3 rfl) ?_
  refine lv_iload_n hx hb d_Z_law_359 rfl (lv_at hl 0 rfl) ?_
  refine lv_iconst (v := 1) hx hb d_Z_law_360 (by decide) ?_
  refine lv_iadd hx hb d_Z_law_361 ?_
  refine k_top (nI (i + 1)) (nI_add i 1) ?_
  refine va_sld hx hb hX hbl (Nat.not_le.mpr hbl) hS (vp_in_nI (by omega) (by omega)) d_Z_law_362 ?_
  refine k_top (xs (i + 1)) (by rw [show (nI (i + 1)).toNatClampNeg = i + 1 from nI_clamp (by omega)]) ?_
  refine lv_aload_n hx hb d_Z_law_363 rfl (lv_at hl 3 rfl) ?_
  refine lv_iload_n hx hb d_Z_law_364 rfl (lv_at hl 0 rfl) ?_
  refine lv_iconst (v := 2) hx hb d_Z_law_365 (by decide) ?_
  refine lv_iadd hx hb d_Z_law_366 ?_
  refine k_top (nI (i + 2)) (nI_add i 2) ?_
  refine va_sld hx hb hX hbl (Nat.not_le.mpr hbl) hS (vp_in_nI (by omega) (by omega)) d_Z_law_367 ?_
  refine k_top (xs (i + 2)) (by rw [show (nI (i + 2)).toNatClampNeg = i + 2 from nI_clamp (by omega)]) ?_
  refine lv_aload_n hx hb d_Z_law_368 rfl (lv_at hl 3 rfl) ?_
  refine lv_iload_n hx hb d_Z_law_369 rfl (lv_at hl 0 rfl) ?_
  refine lv_iconst (v := 3) hx hb d_Z_law_370 (by decide) ?_
  refine lv_iadd hx hb d_Z_law_371 ?_
  refine k_top (nI (i + 3)) (nI_add i 3) ?_
  refine va_sld hx hb hX hbl (Nat.not_le.mpr hbl) hS (vp_in_nI (by omega) (by omega)) d_Z_law_372 ?_
  refine k_top (xs (i + 3)) (by rw [show (nI (i + 3)).toNatClampNeg = i + 3 from nI_clamp (by omega)]) ?_
  refine kM_i (va_runV (C := R_M) (As := [.int (xs (i + 1)), .int (xs (i + 2)), .int (xs (i + 3))]) (rest := [.int (bi (cCor N S (xs (i + 1)) (xs (i + 2)) (xs (i + 3)) z).1)]) ⟨hx, hb, hml, hown, hts⟩ (c_Model_corrupt l D cA q2 N S r g1 g2 g3 g4 (xs (i + 1)) (xs (i + 2)) (xs (i + 3))) (k_cwV 3 hts m_code_M_corrupt m_ini_M m_l_Z_59 m_inst_M_corrupt m_sel_M_corrupt h_M_corrupt rfl rfl ⟨Nat.le_of_ble_eq_true rfl, Nat.le_of_ble_eq_true rfl⟩) (pMW hP hK hD) rfl rfl hl.1 rfl (lv_room (Nat.le_of_ble_eq_true rfl)) d_Z_law_373 ⟨rm_c, rm_s⟩) hP hS hD (fun H locs hP hD hS => ?_)
  refine lv_icmp_eq (tgt := 588) hx hb d_Z_law_376 rfl (fun g => ?_) (fun g => ?_)
  · exact K _ _ H locs hP hS (cor_eq g1 g2 g4 hR).2
  · exact absurd (congrArg bi (cor_eq g1 g2 g4 hR).1) g
set_option maxHeartbeats 4000000 in
set_option maxRecDepth 100000 in
theorem law_arm {p : Program} {l : Launch} {e : Env} {s : State} {m : MethodId} {below : List Frame} {meth : Method} {c : Code} {H : Heap} {locs : List Loc} {Q : State → Prop} {D : va_G} {cA : ClassId} {q q2 : Nat → Nat} {N S b L i : Nat} {xs : Nat → Int32} {ls : Array Slot} {z : CS} {r : RS} (hC : LC p s m c D cA N S b L xs) (hi : i + 4 ≤ L) (hl : lv_has ls 4 [(3, .int (nI i)), (2, .ref (q2 0)), (1, .ref (q 0)), (0, .ref b)]) (hP : va_P D vwCl (wB cA q q2 N S z r) H) (hD : va_D (lwA s) (wB cA q q2 N S z r)) (hS : va_S (lwA s) s.heap H locs) (hR : RR N S z r)
    (K : ∀ (z1 : CS) (r1 : RS) (H1 : Heap) (locs1 : List Loc), va_P D vwCl (wB cA q q2 N S z1 r1) H1 → va_S (lwA s) s.heap H1 locs1 → RR N S z1 r1 → W p l e room_1 s m #[Value.ref b] below meth c H1 locs1 13 419 Q (F0 m 588 ls [])) : W p l e room_1 s m #[Value.ref b] below meth c H locs 13 419 Q (F0 m 381 ls []) := by
  obtain ⟨hx, hb, hml, hown, hts, hK, hTb, hX, hbl, hL, g1, g2, g3, g4⟩ := hC
  refine lv_aload_n hx hb d_Z_law_381 rfl (lv_at hl 2 rfl) ?_
  refine lv_aload_n hx hb d_Z_law_382 rfl (lv_at hl 3 rfl) ?_
  refine lv_iload_n hx hb d_Z_law_383 rfl (lv_at hl 0 rfl) ?_
  refine lv_iconst (v := 1) hx hb d_Z_law_384 (by decide) ?_
  refine lv_iadd hx hb d_Z_law_385 ?_
  refine k_top (nI (i + 1)) (nI_add i 1) ?_
  refine va_sld hx hb hX hbl (Nat.not_le.mpr hbl) hS (vp_in_nI (by omega) (by omega)) d_Z_law_386 ?_
  refine k_top (xs (i + 1)) (by rw [show (nI (i + 1)).toNatClampNeg = i + 1 from nI_clamp (by omega)]) ?_
  refine kA_i (va_runV (C := R_A) (As := [.int (xs (i + 1))]) (rest := []) ⟨hx, hb, hml, hown, hts⟩ (c_DualParityArray_arm l D cA q N S z g1 g2 g3 g4 (xs (i + 1))) (k_cwV 1 hts m_code_A_arm m_ini_A m_l_Z_60 m_inst_A_arm m_sel_A_arm h_A_arm rfl rfl ⟨Nat.le_of_ble_eq_true rfl, Nat.le_of_ble_eq_true rfl⟩) (pAW hP hK hD) rfl rfl hl.1 rfl (lv_room (Nat.le_of_ble_eq_true rfl)) d_Z_law_387 ⟨rm_c, rm_s⟩) hP hS hD (fun H locs hP hD hS => ?_)
  refine lv_aload_n hx hb d_Z_law_390 rfl (lv_at hl 1 rfl) ?_
  refine lv_aload_n hx hb d_Z_law_391 rfl (lv_at hl 3 rfl) ?_
  refine lv_iload_n hx hb d_Z_law_392 rfl (lv_at hl 0 rfl) ?_
  refine lv_iconst (v := 1) hx hb d_Z_law_393 (by decide) ?_
  refine lv_iadd hx hb d_Z_law_394 ?_
  refine k_top (nI (i + 1)) (nI_add i 1) ?_
  refine va_sld hx hb hX hbl (Nat.not_le.mpr hbl) hS (vp_in_nI (by omega) (by omega)) d_Z_law_395 ?_
  refine k_top (xs (i + 1)) (by rw [show (nI (i + 1)).toNatClampNeg = i + 1 from nI_clamp (by omega)]) ?_
  refine kM_i (va_runV (C := R_M) (As := [.int (xs (i + 1))]) (rest := [.int (bi (cArm (xs (i + 1)) z).1)]) ⟨hx, hb, hml, hown, hts⟩ (c_Model_arm l D cA q2 N S r g1 g2 g3 g4 (xs (i + 1))) (k_cwV 1 hts m_code_M_arm m_ini_M m_l_Z_63 m_inst_M_arm m_sel_M_arm h_M_arm rfl rfl ⟨Nat.le_of_ble_eq_true rfl, Nat.le_of_ble_eq_true rfl⟩) (pMW hP hK hD) rfl rfl hl.1 rfl (lv_room (Nat.le_of_ble_eq_true rfl)) d_Z_law_396 ⟨rm_c, rm_s⟩) hP hS hD (fun H locs hP hD hS => ?_)
  refine lv_icmp_eq (tgt := 588) hx hb d_Z_law_399 rfl (fun g => ?_) (fun g => ?_)
  · exact K _ _ H locs hP hS (arm_eq hR).2
  · exact absurd (congrArg bi (arm_eq hR).1) g
set_option maxHeartbeats 4000000 in
set_option maxRecDepth 100000 in
theorem law_crash {p : Program} {l : Launch} {e : Env} {s : State} {m : MethodId} {below : List Frame} {meth : Method} {c : Code} {H : Heap} {locs : List Loc} {Q : State → Prop} {D : va_G} {cA : ClassId} {q q2 : Nat → Nat} {N S b L i : Nat} {xs : Nat → Int32} {ls : Array Slot} {z : CS} {r : RS} (hC : LC p s m c D cA N S b L xs) (hi : i + 4 ≤ L) (hl : lv_has ls 4 [(3, .int (nI i)), (2, .ref (q2 0)), (1, .ref (q 0)), (0, .ref b)]) (hP : va_P D vwCl (wB cA q q2 N S z r) H) (hD : va_D (lwA s) (wB cA q q2 N S z r)) (hS : va_S (lwA s) s.heap H locs) (hR : RR N S z r)
    (K : ∀ (z1 : CS) (r1 : RS) (H1 : Heap) (locs1 : List Loc), va_P D vwCl (wB cA q q2 N S z1 r1) H1 → va_S (lwA s) s.heap H1 locs1 → RR N S z1 r1 → W p l e room_1 s m #[Value.ref b] below meth c H1 locs1 13 419 Q (F0 m 588 ls [])) : W p l e room_1 s m #[Value.ref b] below meth c H locs 13 419 Q (F0 m 404 ls []) := by
  obtain ⟨hx, hb, hml, hown, hts, hK, hTb, hX, hbl, hL, g1, g2, g3, g4⟩ := hC
  refine lv_aload_n hx hb d_Z_law_404 rfl (lv_at hl 2 rfl) ?_
  refine kA_i (va_runV (C := R_A) (As := []) (rest := []) ⟨hx, hb, hml, hown, hts⟩ (c_DualParityArray_crash l D cA q N S z g1 g2 g3 g4) (k_cwV 0 hts m_code_A_crash m_ini_A m_l_Z_64 m_inst_A_crash m_sel_A_crash h_A_crash rfl rfl ⟨Nat.le_of_ble_eq_true rfl, Nat.le_of_ble_eq_true rfl⟩) (pAW hP hK hD) rfl rfl hl.1 rfl (lv_room (Nat.le_of_ble_eq_true rfl)) d_Z_law_405 ⟨rm_c, rm_s⟩) hP hS hD (fun H locs hP hD hS => ?_)
  refine lv_aload_n hx hb d_Z_law_408 rfl (lv_at hl 1 rfl) ?_
  refine kM_i (va_runV (C := R_M) (As := []) (rest := [.int (bi (cCra z).1)]) ⟨hx, hb, hml, hown, hts⟩ (c_Model_crash l D cA q2 N S r g1 g2 g3 g4) (k_cwV 0 hts m_code_M_crash m_ini_M m_l_Z_68 m_inst_M_crash m_sel_M_crash h_M_crash rfl rfl ⟨Nat.le_of_ble_eq_true rfl, Nat.le_of_ble_eq_true rfl⟩) (pMW hP hK hD) rfl rfl hl.1 rfl (lv_room (Nat.le_of_ble_eq_true rfl)) d_Z_law_409 ⟨rm_c, rm_s⟩) hP hS hD (fun H locs hP hD hS => ?_)
  refine lv_icmp_eq (tgt := 588) hx hb d_Z_law_412 rfl (fun g => ?_) (fun g => ?_)
  · exact K _ _ H locs hP hS (cra_eq hR).2
  · exact absurd (congrArg bi (cra_eq hR).1) g
