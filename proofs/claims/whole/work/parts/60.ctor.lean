/-! rows for the constructors: a world that grows -/
abbrev k_N (D : va_G) (cA : ClassId) (wc : va_W) (sz : Nat) : State → Prop := fun U => U.heap.size = sz ∧ va_P D vwCl wc U.heap ∧ va_K D vwCl [(cA, .int)] U ∧ va_D (fun _ => True) wc
theorem k_N_b {D : va_G} {cA : ClassId} {wc : va_W} {sz : Nat} {av : List Value} : FrameBlind (va_Pc av (k_N D cA wc sz)) := fun a U g mk q => by
  obtain ⟨q0, q1, qP, qK, qD⟩ := q
  exact ⟨q0, q1, qP, va_K.moved (u := U) (U := U.calling g mk a) (Vm.Alike.refl U.vm) qK, qD⟩
theorem k_pN {s : State} {H : Heap} {D : va_G} {cA : ClassId} {ws wc : va_W} {As : List Value} {A : Nat → Prop} (hP : va_P D vwCl ws H) (hK : va_K D vwCl [(cA, .int)] s) (hD : va_D A ws) (is : List Nat) (hn : va_nd is = true) (hC : is.map (fun i => ws[i]?) = wc.map some) : PreS s H (va_Pc As (k_N D cA wc H.size)) As :=
  ⟨k_N_b, fun U hU hW => ⟨rfl, by rw [hU], by rw [hU]; exact k_Psub hP is hC, va_K.moved hW.alike hK, (hD.sub is hn hC).weaken (fun _ _ _ _ => trivial)⟩⟩
section KNew
variable {p : Program} {l : Launch} {e : Env} {R : Room} {s : State} {m : MethodId} {args : Array Value} {below : List Frame} {meth : Method} {c : Code} {H : Heap} {locs : List Loc} {cells slots : Nat} {Q : State → Prop}
variable {pc : Nat} {ls : Array Slot} {rest st0 : List Value} {a : Array Value} {D : va_G} {cA : ClassId} {ws wc wr : va_W} {A0 : Nat → Prop} {H0 : Heap} {mc ms : Nat}
theorem k_via {g g2 : JFrame} (h : W p l e R s m args below meth c H locs cells slots Q g2) (k : W p l e R s m args below meth c H locs cells slots Q g2 → W p l e R s m args below meth c H locs cells slots Q g) : W p l e R s m args below meth c H locs cells slots Q g := k h
theorem k_ini {S : Type} {w1 : S → va_W} (hr : va_Run p l e R s m args below meth c H locs cells slots mc ms (F0 m pc ls st0) rest (va_Qv (fun (_ : S) => True) (fun u t => va_P D vwCl (w1 u) t.heap ∧ va_D (va_A wc H.size) (w1 u)) (va_A wc H.size) a) (va_A wc H.size)) (hP : va_P D vwCl ws H) (hS : va_S A0 H0 H locs) (hD : va_D A0 ws) (hA : ∀ q, H0.size ≤ q → A0 q) (isC isR : List Nat) (hC : isC.map (fun i => ws[i]?) = wc.map some) (hR : isR.map (fun i => ws[i]?) = wr.map some) (hn : va_nd isR = true) (hdis : ∀ i ∈ isR, i ∉ isC)
    (kk : ∀ (u : S) (H1 : Heap) (locs1 : List Loc), va_P D vwCl (wr ++ w1 u) H1 → va_D A0 (wr ++ w1 u) → va_S A0 H0 H1 locs1 → W p l e R s m args below meth c H1 locs1 (cells + mc) (slots + ms) Q (F0 m (pc + 3) ls rest)) : W p l e R s m args below meth c H locs cells slots Q (F0 m pc ls st0) :=
  va_callv hr hS (fun q _ h => va_free hD hS hA isC hC q h) (va_free hD hS hA isC hC) (fun u t H1 locs1 ht _ _ hB _ hk hS1 => by
    obtain ⟨hP1, hD1⟩ := hB
    rw [ht] at hP1
    obtain ⟨hP2, hD2⟩ := va_join hP hD isC isR hC hR hn hdis hk (va_free hD hS hA isC hC) hP1 hD1
    exact kk u H1 locs1 hP2 hD2 hS1)
theorem k_newa {cc : ByteArray} (hexec : p.tables.exec = Jvm.exec) (hb : c.code = cc) (harr : (Cond.arrayClass .int).before args s = true) (hK : va_K D vwCl [(cA, .int)] s) (hP : va_P D vwCl ws H) (hD : va_D A0 ws) (hS : va_S A0 H0 H locs) (hA : ∀ q, H0.size ≤ q → A0 q) {a : Nat} (ha : a < 2 ^ 20) (hcells : cells + 1 ≤ R.cells) (hslots : slots + a ≤ R.slots) (hdg : decode cc pc = .ok (.newarray .int, 2))
    (kk : ∀ (q : Nat) (H1 : Heap), va_P D vwCl (ws ++ [(q, .inl (cA, a, .inl (fun _ => 0)))]) H1 → va_D A0 (ws ++ [(q, .inl (cA, a, .inl (fun _ => 0)))]) → va_S A0 H0 H1 locs → W p l e R s m args below meth c H1 locs (cells + 1) (slots + a) Q (F0 m (pc + 2) ls (.ref q :: rest))) : W p l e R s m args below meth c H locs cells slots Q (F0 m pc ls (.int (nI a) :: rest)) := by
  refine va_newa (atype := .int) (ty := .int) (a0 := (a, .inl (fun _ => 0))) (N' := a) hexec hb harr rfl hK hP hD hS hA (fun _ => rfl) (nI_pos (by omega)) (nI_clamp (by omega)) (by show a * 4 ≤ 536870912; omega) hcells hslots hdg (fun q c2 H1 hK2 hP2 hD2 hS2 => ?_)
  have e1 : s.vm.findClass ("[" ++ FieldType.int.toString) = some c2 := (hK2.2 1 (c2, .int) rfl).2
  have e0 : s.vm.findClass ("[" ++ FieldType.int.toString) = some cA := (hK.2 0 (cA, .int) rfl).2
  obtain rfl : c2 = cA := Option.some.inj (e1.symm.trans e0)
  exact kk q H1 hP2 hD2 hS2
end KNew
def fil (i : Nat) (v : Int32) : Fn := fun j => if j < i then v else 0
theorem fil_0 (v : Int32) : fil 0 v = fun _ => 0 := rfl
theorem fil_s (i : Nat) (v : Int32) : upd (fil i v) i v = fil (i + 1) v := by
  funext j
  unfold fil upd
  by_cases h : j = i
  · subst h; simp
  · by_cases h2 : j < i
    · rw [if_pos (show j < i + 1 by omega)]; simp [h, h2]
    · rw [if_neg (show ¬ j < i + 1 by omega)]; simp [h, h2]
def cs0 (N S : Nat) (le : Int32) : CS := (le, 0, -1, 0, 0, 0, fun _ => 0, fil N (nI S), fun _ => 0, -1, 0, 0, fun _ => 0)
def rs0 (N S : Nat) (le : Int32) : RS := (le, 0, 0, 0, 0, 0, 0, fun _ => 0, fil N (nI S), fun _ => 0, fun _ => 0, -1, 0, 0)
def qf8 (a b c d e f g h : Nat) : Nat → Nat
  | 0 => a
  | 1 => b
  | 2 => c
  | 3 => d
  | 4 => e
  | 5 => f
  | 6 => g
  | _ => h
def qf5 (a b c d e : Nat) : Nat → Nat
  | 0 => a
  | 1 => b
  | 2 => c
  | 3 => d
  | _ => e
def clm (x lo hi : Int32) : Int32 := if x < lo then lo else if hi < x then hi else x
theorem clm_a {x lo hi v : Int32} (h : clm x lo hi = v) (g : ¬ lo ≤ x) : lo = v := by
  unfold clm at h
  rw [if_pos (Int32.not_le.mp g)] at h
  exact h
theorem clm_b {x lo hi v : Int32} (h : clm x lo hi = v) (g : lo ≤ x) (g2 : ¬ x ≤ hi) : hi = v := by
  unfold clm at h
  rw [if_neg (Int32.not_lt.mpr g), if_pos (Int32.not_le.mp g2)] at h
  exact h
theorem clm_c {x lo hi v : Int32} (h : clm x lo hi = v) (g : lo ≤ x) (g2 : x ≤ hi) : x = v := by
  unfold clm at h
  rw [if_neg (Int32.not_lt.mpr g), if_neg (Int32.not_lt.mpr g2)] at h
  exact h
theorem wth_clm {x lo hi : Int32} (h : lo ≤ hi) : wth x lo hi = clm x lo hi := by
  unfold wth clm
  rw [Int32.le_iff_toInt_le] at h
  simp only [Int32.lt_iff_toInt_lt]
  split <;> split <;> split <;> first | rfl | (exfalso; omega) | (apply Int32.toInt_inj.mp; omega) | (split <;> first | rfl | (exfalso; omega) | (apply Int32.toInt_inj.mp; omega))
theorem clm_nI (x : Int32) {lo hi : Nat} (h : lo ≤ hi) (hh : hi < 2 ^ 31) : ∃ n, lo ≤ n ∧ n ≤ hi ∧ clm x (nI lo) (nI hi) = nI n := by
  unfold clm
  by_cases h1 : x < nI lo
  · exact ⟨lo, Nat.le_refl _, h, if_pos h1⟩
  · by_cases h2 : nI hi < x
    · exact ⟨hi, h, Nat.le_refl _, by rw [if_neg h1, if_pos h2]⟩
    · have h0 : ¬ x < 0 := fun z => h1 (Int32.lt_of_lt_of_le z (nI_pos' (by omega)))
      obtain ⟨j, hj, rfl⟩ : ∃ j, j ≤ hi ∧ x = nI j := nI_of2 (nI_toInt hh) h0 (Int32.not_lt.mp h2)
      have : ¬ j < lo := fun z => h1 ((nI_ltI (by omega) (by omega)).mpr z)
      exact ⟨j, by omega, hj, by rw [if_neg h1, if_neg h2]⟩
theorem bl_D (j : Nat) (hj : j < 4) : defaultValue (ty_D j) = vp_V [.int 0, .int 0, .null, .null] j := by
  rcases (show j = 0 ∨ j = 1 ∨ j = 2 ∨ j = 3 by omega) with rfl | rfl | rfl | rfl <;> rfl
theorem bl_L (j : Nat) (hj : j < 4) : defaultValue (ty_L j) = vp_V [.null, .int 0, .int 0, .int 0] j := by
  rcases (show j = 0 ∨ j = 1 ∨ j = 2 ∨ j = 3 by omega) with rfl | rfl | rfl | rfl <;> rfl
theorem bl_S (j : Nat) (hj : j < 4) : defaultValue (ty_S j) = vp_V [.int 0, .int 0, .int 0, .null] j := by
  rcases (show j = 0 ∨ j = 1 ∨ j = 2 ∨ j = 3 by omega) with rfl | rfl | rfl | rfl <;> rfl
theorem bl_A (j : Nat) (hj : j < 11) : defaultValue (ty_A j) = vp_V [.int 0, .int 0, .null, .null, .null, .int 0, .int 0, .int 0, .int 0, .int 0, .int 0] j := by
  rcases (show j = 0 ∨ j = 1 ∨ j = 2 ∨ j = 3 ∨ j = 4 ∨ j = 5 ∨ j = 6 ∨ j = 7 ∨ j = 8 ∨ j = 9 ∨ j = 10 by omega) with rfl | rfl | rfl | rfl | rfl | rfl | rfl | rfl | rfl | rfl | rfl <;> rfl
theorem bl_M (j : Nat) (hj : j < 16) : defaultValue (ty_M j) = vp_V [.int 0, .int 0, .int 0, .int 0, .int 0, .int 0, .int 0, .int 0, .int 0, .null, .null, .null, .null, .int 0, .int 0, .int 0] j := by
  rcases (show j = 0 ∨ j = 1 ∨ j = 2 ∨ j = 3 ∨ j = 4 ∨ j = 5 ∨ j = 6 ∨ j = 7 ∨ j = 8 ∨ j = 9 ∨ j = 10 ∨ j = 11 ∨ j = 12 ∨ j = 13 ∨ j = 14 ∨ j = 15 by omega) with rfl | rfl | rfl | rfl | rfl | rfl | rfl | rfl | rfl | rfl | rfl | rfl | rfl | rfl | rfl | rfl <;> rfl
theorem RR0 {N S : Nat} (le : Int32) : RR N S (cs0 N S le) (rs0 N S le) := by
  refine ⟨⟨rfl, rfl, rfl, rfl, rfl, Or.inl ⟨rfl, rfl⟩, fun _ _ _ _ => rfl, rfl, Or.inl rfl⟩, Or.inl ⟨rfl, rfl⟩, fun d hd => Or.inr ⟨S, Nat.le_refl _, ?_⟩⟩
  show fil N (nI S) d = nI S
  unfold fil
  rw [if_pos hd]
theorem m_inst_obj : Cond.instanceMethod Lib.objectInit ∈ lw_g := k_g (List.mem_of_getElem? (i := 45) (by decide +kernel)) rfl
theorem m_code_obj : Cond.code Lib.objectInit ⟨#[0xb1]⟩ 1 none ∈ lw_g := k_g (List.mem_of_getElem? (i := 46) rfl) rfl
theorem m_lo_D : Cond.methodLink R_D 3 Lib.objectInit ∈ lw_g := k_g (List.mem_of_getElem? (i := 61) (by decide +kernel)) rfl
theorem m_lo_L : Cond.methodLink R_L 3 Lib.objectInit ∈ lw_g := k_g (List.mem_of_getElem? (i := 81) (by decide +kernel)) rfl
theorem m_lo_S : Cond.methodLink R_S 3 Lib.objectInit ∈ lw_g := k_g (List.mem_of_getElem? (i := 100) (by decide +kernel)) rfl
theorem m_lo_A : Cond.methodLink R_A 1 Lib.objectInit ∈ lw_g := k_g (List.mem_of_getElem? (i := 44) (by decide +kernel)) rfl
theorem m_lo_M : Cond.methodLink R_M 1 Lib.objectInit ∈ lw_g := k_g (List.mem_of_getElem? (i := 455) (by decide +kernel)) rfl
set_option maxHeartbeats 4000000 in
set_option maxRecDepth 100000 in
theorem c_Disks_init (l : Launch) (D : va_G) (cA : ClassId) (h0 sz : Nat) (N S : Nat) (gN4 : 4 ≤ N) (gN : N ≤ 10) (gS1 : 1 ≤ S) (gS : S ≤ 16) : Met l y_D_init w_D_init ({ frames := 1, cells := 2, slots := 170, locals := 12 }) (va_Pc [.ref h0, .int (nI N), .int (nI S)] (k_N D cA [(h0, .inr (0, [.int 0, .int 0, .null, .null]))] sz)) (va_Qv (fun (_ : Nat × Nat) => True) (fun u t => va_P D vwCl (wD cA h0 u.1 u.2 N S (fun _ => 0) (fil N (nI S))) t.heap ∧ va_D (va_A [(h0, .inr (0, [.int 0, .int 0, .null, .null]))] sz) (wD cA h0 u.1 u.2 N S (fun _ => 0) (fil N (nI S)))) (va_A [(h0, .inr (0, [.int 0, .int 0, .null, .null]))] sz)) 2 170 (va_A [(h0, .inr (0, [.int 0, .int 0, .null, .null]))] sz) := by
  refine Met.ofW (cc := b_D_init) (maxL := 4) (ret := none) (by decide) rfl ?_
  intro p e s m args below meth c s₁ B hml hv
  obtain ⟨rfl, hsz, hP, hK, hD0⟩ := hv
  have hx := B.exec
  have hb := B.bytes
  have hr := B.returns
  have hts0 := atoms_spec (ws := w_D_init) B.pre
  have hts : ∀ w ∈ lw_g, w.before _ s = true := fun w h => hts0 w (List.mem_cons_of_mem _ h)
  have hown : s.vm.findClass R_D = some m.cls := findClass_of_methodNamed B.named
  have hlocks := B.notSynchronized
  have hin : meth.name = "<init>" := (name_of_methodNamed B.named B.method).1
  subst hsz
  have hD := hD0.self (sz := s.heap.size)
  have hA : ∀ q : Nat, s.heap.size ≤ q → va_A [(h0, .inr (0, [.int 0, .int 0, .null, .null]))] s.heap.size q := fun q h => Or.inr h
  have hS : va_S (va_A [(h0, .inr (0, [.int 0, .int 0, .null, .null]))] s.heap.size) s.heap s.heap [] := va_S.rf
  have hl := lv_entry ([.ref h0, .int (nI N), .int (nI S)]) (n := 4) (Nat.le_of_ble_eq_true rfl)
  rw [lg_entry_eq]
  generalize (lg_sl ([.ref h0, .int (nI N), .int (nI S)]) ++ List.replicate (4 - (lg_sl ([.ref h0, .int (nI N), .int (nI S)])).length) Slot.unset).toArray = ls at hl ⊢
  have hl : lv_has ls 4 [(0, .ref h0), (1, .int (nI N)), (2, .int (nI S))] := hl
  have hNS : N * S ≤ 160 := Nat.mul_le_mul gN gS
  refine lv_aload_n hx hb d_D_init_0 rfl (lv_at hl 0 rfl) ?_
  refine W.objInit hx hb hown (hts _ m_lo_D) (hts _ m_inst_obj) (hts _ m_code_obj) rfl (by rw [hml]; exact hl.1) rfl d_D_init_1 (Nat.le_of_ble_eq_true rfl) (Nat.le_of_ble_eq_true rfl) ?_
  refine W.eq (g2 := F0 m 4 ls []) rfl ?_
  refine lv_aload_n hx hb d_D_init_4 rfl (lv_at hl 0 rfl) ?_
  refine lv_iload_n hx hb d_D_init_5 rfl (lv_at hl 1 rfl) ?_
  refine va_putF (D := D) (ci := 0) (v := .int (nI N)) (ty := .int) (C := R_D) (T := T_D) (N := 4) hx hb hts (in_D) ty_D tyok_D nm_D hown hK hP hD hS 0 rfl rfl 0 (by decide) (hts _ m_f_D_9) (fun _ h9 => h9) rfl hin rfl (by decide +kernel) rfl rfl (Nat.le_of_ble_eq_true rfl) d_D_init_6 (fun H locs hP hD hS => ?_)
  have hP : va_P D vwCl [(h0, .inr (0, [.int (nI N), .int 0, .null, .null]))] H := hP
  have hD : va_D (va_A [(h0, .inr (0, [.int 0, .int 0, .null, .null]))] s.heap.size) [(h0, .inr (0, [.int (nI N), .int 0, .null, .null]))] := hD
  refine lv_aload_n hx hb d_D_init_9 rfl (lv_at hl 0 rfl) ?_
  refine lv_iload_n hx hb d_D_init_10 rfl (lv_at hl 2 rfl) ?_
  refine va_putF (D := D) (ci := 0) (v := .int (nI S)) (ty := .int) (C := R_D) (T := T_D) (N := 4) hx hb hts (in_D) ty_D tyok_D nm_D hown hK hP hD hS 0 rfl rfl 1 (by decide) (hts _ m_f_D_15) (fun _ h9 => h9) rfl hin rfl (by decide +kernel) rfl rfl (Nat.le_of_ble_eq_true rfl) d_D_init_11 (fun H locs hP hD hS => ?_)
  have hP : va_P D vwCl [(h0, .inr (0, [.int (nI N), .int (nI S), .null, .null]))] H := hP
  have hD : va_D (va_A [(h0, .inr (0, [.int 0, .int 0, .null, .null]))] s.heap.size) [(h0, .inr (0, [.int (nI N), .int (nI S), .null, .null]))] := hD
  refine lv_aload_n hx hb d_D_init_14 rfl (lv_at hl 0 rfl) ?_
  refine lv_iload_n hx hb d_D_init_15 rfl (lv_at hl 1 rfl) ?_
  refine lv_iload_n hx hb d_D_init_16 rfl (lv_at hl 2 rfl) ?_
  refine lv_imul hx hb d_D_init_17 ?_
  refine k_top (nI (N * S)) (pk_mul N S) ?_
  have hk1 : 0 + N * S ≤ 170 := by first | omega | decide
  refine k_newa (a := N * S) hx hb (hts _ m_arr) hK hP hD hS hA (by first | omega | decide) (Nat.le_of_ble_eq_true rfl) hk1 d_D_init_18 (fun q1 H hP hD hS => ?_)
  have hP : va_P D vwCl [(h0, .inr (0, [.int (nI N), .int (nI S), .null, .null])), (q1, .inl (cA, N * S, .inl (fun _ => 0)))] H := hP
  have hD : va_D (va_A [(h0, .inr (0, [.int 0, .int 0, .null, .null]))] s.heap.size) [(h0, .inr (0, [.int (nI N), .int (nI S), .null, .null])), (q1, .inl (cA, N * S, .inl (fun _ => 0)))] := hD
  refine W.widen (k := 1) (n := 160) (by first | decide | omega) (by first | decide | omega) ?_
  refine va_putF (D := D) (ci := 0) (v := .ref q1) (ty := .array .int) (C := R_D) (T := T_D) (N := 4) hx hb hts (in_D) ty_D tyok_D nm_D hown hK hP hD hS 0 rfl rfl 2 (by decide) (hts _ m_f_D_18) (fun _ h9 => h9) rfl hin rfl (by decide +kernel) rfl rfl (Nat.le_of_ble_eq_true rfl) d_D_init_20 (fun H locs hP hD hS => ?_)
  have hP : va_P D vwCl [(h0, .inr (0, [.int (nI N), .int (nI S), .ref q1, .null])), (q1, .inl (cA, N * S, .inl (fun _ => 0)))] H := hP
  have hD : va_D (va_A [(h0, .inr (0, [.int 0, .int 0, .null, .null]))] s.heap.size) [(h0, .inr (0, [.int (nI N), .int (nI S), .ref q1, .null])), (q1, .inl (cA, N * S, .inl (fun _ => 0)))] := hD
  refine lv_aload_n hx hb d_D_init_23 rfl (lv_at hl 0 rfl) ?_
  refine lv_iload_n hx hb d_D_init_24 rfl (lv_at hl 1 rfl) ?_
  have hk2 : 160 + N ≤ 170 := by first | omega | decide
  refine k_newa (a := N) hx hb (hts _ m_arr) hK hP hD hS hA (by first | omega | decide) (Nat.le_of_ble_eq_true rfl) hk2 d_D_init_25 (fun q2 H hP hD hS => ?_)
  have hP : va_P D vwCl [(h0, .inr (0, [.int (nI N), .int (nI S), .ref q1, .null])), (q1, .inl (cA, N * S, .inl (fun _ => 0))), (q2, .inl (cA, N, .inl (fun _ => 0)))] H := hP
  have hD : va_D (va_A [(h0, .inr (0, [.int 0, .int 0, .null, .null]))] s.heap.size) [(h0, .inr (0, [.int (nI N), .int (nI S), .ref q1, .null])), (q1, .inl (cA, N * S, .inl (fun _ => 0))), (q2, .inl (cA, N, .inl (fun _ => 0)))] := hD
  refine W.widen (k := 2) (n := 170) (by first | decide | omega) (by first | decide | omega) ?_
  refine va_putF (D := D) (ci := 0) (v := .ref q2) (ty := .array .int) (C := R_D) (T := T_D) (N := 4) hx hb hts (in_D) ty_D tyok_D nm_D hown hK hP hD hS 0 rfl rfl 3 (by decide) (hts _ m_f_D_22) (fun _ h9 => h9) rfl hin rfl (by decide +kernel) rfl rfl (Nat.le_of_ble_eq_true rfl) d_D_init_27 (fun H locs hP hD hS => ?_)
  have hP : va_P D vwCl [(h0, .inr (0, [.int (nI N), .int (nI S), .ref q1, .ref q2])), (q1, .inl (cA, N * S, .inl (fun _ => 0))), (q2, .inl (cA, N, .inl (fun _ => 0)))] H := hP
  have hD : va_D (va_A [(h0, .inr (0, [.int 0, .int 0, .null, .null]))] s.heap.size) [(h0, .inr (0, [.int (nI N), .int (nI S), .ref q1, .ref q2])), (q1, .inl (cA, N * S, .inl (fun _ => 0))), (q2, .inl (cA, N, .inl (fun _ => 0)))] := hD
  refine lv_iconst (v := 0) hx hb d_D_init_30 (by decide) ?_
  refine lv_istore_n (lv' := [(3, .int 0), (0, .ref h0), (1, .int (nI N)), (2, .int (nI S))]) hx hb d_D_init_31 rfl hl (by decide) rfl (fun ls hl => ?_)
  have L32 : ∀ (k i : Nat) (ls : Array Slot) (H : Heap) (locs : List Loc), i + k = N → lv_has ls 4 [(3, .int (nI i)), (0, .ref h0), (1, .int (nI N)), (2, .int (nI S))] → va_P D vwCl [(h0, .inr (0, [.int (nI N), .int (nI S), .ref q1, .ref q2])), (q1, .inl (cA, N * S, .inl (fun _ => 0))), (q2, .inl (cA, N, .inl (fil i (nI S))))] H → va_S (va_A [(h0, .inr (0, [.int 0, .int 0, .null, .null]))] s.heap.size) s.heap H locs → W p l e (headSpec w_D_init ({ frames := 1, cells := 2, slots := 170, locals := 12 })).room s m ([.ref h0, .int (nI N), .int (nI S)] : List Value).toArray below meth c H locs 2 170 (MQ below (va_Qv (fun (_ : Nat × Nat) => True) (fun u t => va_P D vwCl (wD cA h0 u.1 u.2 N S (fun _ => 0) (fil N (nI S))) t.heap ∧ va_D (va_A [(h0, .inr (0, [.int 0, .int 0, .null, .null]))] s.heap.size) (wD cA h0 u.1 u.2 N S (fun _ => 0) (fil N (nI S)))) (va_A [(h0, .inr (0, [.int 0, .int 0, .null, .null]))] s.heap.size)) ([.ref h0, .int (nI N), .int (nI S)] : List Value).toArray s 2 170 (va_A [(h0, .inr (0, [.int 0, .int 0, .null, .null]))] s.heap.size)) (F0 m 32 ls []) := by
    intro k
    induction k with
    | zero =>
      intro i ls H locs hi hl hP hS
      obtain rfl : N = i := by omega
      have hD : va_D (va_A [(h0, .inr (0, [.int 0, .int 0, .null, .null]))] s.heap.size) [(h0, .inr (0, [.int (nI N), .int (nI S), .ref q1, .ref q2])), (q1, .inl (cA, N * S, .inl (fun _ => 0))), (q2, .inl (cA, N, .inl (fil N (nI S))))] := k_D hD rfl
      refine lv_iload_n hx hb d_D_init_32 rfl (lv_at hl 0 rfl) ?_
      refine lv_iload_n hx hb d_D_init_33 rfl (lv_at hl 2 rfl) ?_
      refine lv_icmp_ge (tgt := 50) hx hb d_D_init_34 rfl (fun g => ?_) (fun g => ?_)
      · exact W.vret hx hb hr (fun t ht hW => ⟨⟨(q1, q2), rfl, trivial, by rw [ht]; exact hP, hD⟩, hS.F ht⟩) hS.2.2 d_D_init_50
      · exact absurd ((nI_leI (by omega) (by omega)).mpr (Nat.le_refl N)) g
    | succ k ih =>
      intro i ls H locs hi hl hP hS
      have hD : va_D (va_A [(h0, .inr (0, [.int 0, .int 0, .null, .null]))] s.heap.size) [(h0, .inr (0, [.int (nI N), .int (nI S), .ref q1, .ref q2])), (q1, .inl (cA, N * S, .inl (fun _ => 0))), (q2, .inl (cA, N, .inl (fil i (nI S))))] := k_D hD rfl
      refine lv_iload_n hx hb d_D_init_32 rfl (lv_at hl 0 rfl) ?_
      refine lv_iload_n hx hb d_D_init_33 rfl (lv_at hl 2 rfl) ?_
      refine lv_icmp_ge (tgt := 50) hx hb d_D_init_34 rfl (fun g => ?_) (fun g => ?_)
      · exact absurd ((nI_leI (a := N) (b := i) (by omega) (by omega)).mp g) (by omega)
      · refine lv_aload_n hx hb d_D_init_37 rfl (lv_at hl 1 rfl) ?_
        refine va_get (D := D) (ci := 0) (v := .ref q2) (C := R_D) (T := T_D) (N := 4) hx hb hts (in_D) hown hK hP 0 rfl rfl 3 (by decide) (hts _ m_f_D_22) (fun _ h9 => h9) rfl d_D_init_38 ?_
        refine lv_iload_n hx hb d_D_init_41 rfl (lv_at hl 0 rfl) ?_
        refine lv_iload_n hx hb d_D_init_42 rfl (lv_at hl 3 rfl) ?_
        refine va_iast (n := N) (f := fil i (nI S)) hx hb hK hP hD hS 2 0 rfl rfl (vp_in_nI (by omega) (by omega)) d_D_init_43 (fun H locs hP hD hS => ?_)
        rw [show (nI i).toNatClampNeg = i from nI_clamp (by omega), fil_s] at hP hD
        have hP : va_P D vwCl [(h0, .inr (0, [.int (nI N), .int (nI S), .ref q1, .ref q2])), (q1, .inl (cA, N * S, .inl (fun _ => 0))), (q2, .inl (cA, N, .inl (fil (i + 1) (nI S))))] H := hP
        have hD : va_D (va_A [(h0, .inr (0, [.int 0, .int 0, .null, .null]))] s.heap.size) [(h0, .inr (0, [.int (nI N), .int (nI S), .ref q1, .ref q2])), (q1, .inl (cA, N * S, .inl (fun _ => 0))), (q2, .inl (cA, N, .inl (fil (i + 1) (nI S))))] := hD
        refine lv_iinc (k := 0) (v := nI (i + 1)) (lv' := [(3, .int (nI (i + 1))), (0, .ref h0), (1, .int (nI N)), (2, .int (nI S))]) hx hb d_D_init_44 hl rfl (nI_add i 1) (by decide) rfl (fun ls hl => ?_)
        refine lv_goto hx hb d_D_init_47 rfl ?_
        exact ih (i + 1) ls H locs (by omega) hl hP hS
  exact L32 N 0 ls H locs (by omega) hl (by rw [fil_0]; exact hP) hS
set_option maxHeartbeats 4000000 in
set_option maxRecDepth 100000 in
theorem c_Log_init (l : Launch) (D : va_G) (cA : ClassId) (h0 sz : Nat) (N : Nat) (gN4 : 4 ≤ N) (gN : N ≤ 10) : Met l y_L_init w_L_init ({ frames := 1, cells := 1, slots := 10, locals := 12 }) (va_Pc [.ref h0, .int (nI N)] (k_N D cA [(h0, .inr (1, [.null, .int 0, .int 0, .int 0]))] sz)) (va_Qv (fun (_ : Nat) => True) (fun u t => va_P D vwCl (wL cA h0 u N (-1) 0 0 (fun _ => 0)) t.heap ∧ va_D (va_A [(h0, .inr (1, [.null, .int 0, .int 0, .int 0]))] sz) (wL cA h0 u N (-1) 0 0 (fun _ => 0))) (va_A [(h0, .inr (1, [.null, .int 0, .int 0, .int 0]))] sz)) 1 10 (va_A [(h0, .inr (1, [.null, .int 0, .int 0, .int 0]))] sz) := by
  refine Met.ofW (cc := b_L_init) (maxL := 2) (ret := none) (by decide) rfl ?_
  intro p e s m args below meth c s₁ B hml hv
  obtain ⟨rfl, hsz, hP, hK, hD0⟩ := hv
  have hx := B.exec
  have hb := B.bytes
  have hr := B.returns
  have hts0 := atoms_spec (ws := w_L_init) B.pre
  have hts : ∀ w ∈ lw_g, w.before _ s = true := fun w h => hts0 w (List.mem_cons_of_mem _ h)
  have hown : s.vm.findClass R_L = some m.cls := findClass_of_methodNamed B.named
  have hlocks := B.notSynchronized
  have hin : meth.name = "<init>" := (name_of_methodNamed B.named B.method).1
  subst hsz
  have hD := hD0.self (sz := s.heap.size)
  have hA : ∀ q : Nat, s.heap.size ≤ q → va_A [(h0, .inr (1, [.null, .int 0, .int 0, .int 0]))] s.heap.size q := fun q h => Or.inr h
  have hS : va_S (va_A [(h0, .inr (1, [.null, .int 0, .int 0, .int 0]))] s.heap.size) s.heap s.heap [] := va_S.rf
  have hl := lv_entry ([.ref h0, .int (nI N)]) (n := 2) (Nat.le_of_ble_eq_true rfl)
  rw [lg_entry_eq]
  generalize (lg_sl ([.ref h0, .int (nI N)]) ++ List.replicate (2 - (lg_sl ([.ref h0, .int (nI N)])).length) Slot.unset).toArray = ls at hl ⊢
  have hl : lv_has ls 2 [(0, .ref h0), (1, .int (nI N))] := hl
  refine lv_aload_n hx hb d_L_init_0 rfl (lv_at hl 0 rfl) ?_
  refine W.objInit hx hb hown (hts _ m_lo_L) (hts _ m_inst_obj) (hts _ m_code_obj) rfl (by rw [hml]; exact hl.1) rfl d_L_init_1 (Nat.le_of_ble_eq_true rfl) (Nat.le_of_ble_eq_true rfl) ?_
  refine W.eq (g2 := F0 m 4 ls []) rfl ?_
  refine lv_aload_n hx hb d_L_init_4 rfl (lv_at hl 0 rfl) ?_
  refine lv_iload_n hx hb d_L_init_5 rfl (lv_at hl 1 rfl) ?_
  have hk1 : 0 + N ≤ 10 := by first | omega | decide
  refine k_newa (a := N) hx hb (hts _ m_arr) hK hP hD hS hA (by first | omega | decide) (Nat.le_of_ble_eq_true rfl) hk1 d_L_init_6 (fun q1 H hP hD hS => ?_)
  have hP : va_P D vwCl [(h0, .inr (1, [.null, .int 0, .int 0, .int 0])), (q1, .inl (cA, N, .inl (fun _ => 0)))] H := hP
  have hD : va_D (va_A [(h0, .inr (1, [.null, .int 0, .int 0, .int 0]))] s.heap.size) [(h0, .inr (1, [.null, .int 0, .int 0, .int 0])), (q1, .inl (cA, N, .inl (fun _ => 0)))] := hD
  refine W.widen (k := 1) (n := 10) (by first | decide | omega) (by first | decide | omega) ?_
  refine va_putF (D := D) (ci := 1) (v := .ref q1) (ty := .array .int) (C := R_L) (T := T_L) (N := 4) hx hb hts (in_L) ty_L tyok_L nm_L hown hK hP hD hS 0 rfl rfl 0 (by decide) (hts _ m_f_L_9) (fun _ h9 => h9) rfl hin rfl (by decide +kernel) rfl rfl (Nat.le_of_ble_eq_true rfl) d_L_init_8 (fun H locs hP hD hS => ?_)
  have hP : va_P D vwCl [(h0, .inr (1, [.ref q1, .int 0, .int 0, .int 0])), (q1, .inl (cA, N, .inl (fun _ => 0)))] H := hP
  have hD : va_D (va_A [(h0, .inr (1, [.null, .int 0, .int 0, .int 0]))] s.heap.size) [(h0, .inr (1, [.ref q1, .int 0, .int 0, .int 0])), (q1, .inl (cA, N, .inl (fun _ => 0)))] := hD
  refine lv_aload_n hx hb d_L_init_11 rfl (lv_at hl 0 rfl) ?_
  refine lv_iconst (v := (-1)) hx hb d_L_init_12 (by decide) ?_
  refine va_put (D := D) (ci := 1) (v := .int (-1)) (ty := .int) (C := R_L) (T := T_L) (N := 4) hx hb hts (in_L) ty_L tyok_L nm_L hown hK hP hD hS 0 rfl rfl 1 (by decide) (hts _ m_f_L_15) (fun _ h9 => h9) rfl (by decide +kernel) rfl rfl (Nat.le_of_ble_eq_true rfl) d_L_init_13 (fun H locs hP hD hS => ?_)
  have hP : va_P D vwCl [(h0, .inr (1, [.ref q1, .int (-1), .int 0, .int 0])), (q1, .inl (cA, N, .inl (fun _ => 0)))] H := hP
  have hD : va_D (va_A [(h0, .inr (1, [.null, .int 0, .int 0, .int 0]))] s.heap.size) [(h0, .inr (1, [.ref q1, .int (-1), .int 0, .int 0])), (q1, .inl (cA, N, .inl (fun _ => 0)))] := hD
  exact W.vret hx hb hr (fun t ht hW => ⟨⟨q1, rfl, trivial, by rw [ht]; exact hP, hD⟩, hS.F ht⟩) hS.2.2 d_L_init_16
set_option maxHeartbeats 4000000 in
set_option maxRecDepth 100000 in
theorem c_Stripe_init (l : Launch) (D : va_G) (cA : ClassId) (h0 sz : Nat) (N : Nat) (gN4 : 4 ≤ N) (gN : N ≤ 10) : Met l y_S_init w_S_init ({ frames := 1, cells := 1, slots := 10, locals := 12 }) (va_Pc [.ref h0, .int (nI N)] (k_N D cA [(h0, .inr (2, [.int 0, .int 0, .int 0, .null]))] sz)) (va_Qv (fun (_ : Nat) => True) (fun u t => va_P D vwCl (wS cA h0 u N (fun _ => 0)) t.heap ∧ va_D (va_A [(h0, .inr (2, [.int 0, .int 0, .int 0, .null]))] sz) (wS cA h0 u N (fun _ => 0))) (va_A [(h0, .inr (2, [.int 0, .int 0, .int 0, .null]))] sz)) 1 10 (va_A [(h0, .inr (2, [.int 0, .int 0, .int 0, .null]))] sz) := by
  refine Met.ofW (cc := b_S_init) (maxL := 2) (ret := none) (by decide) rfl ?_
  intro p e s m args below meth c s₁ B hml hv
  obtain ⟨rfl, hsz, hP, hK, hD0⟩ := hv
  have hx := B.exec
  have hb := B.bytes
  have hr := B.returns
  have hts0 := atoms_spec (ws := w_S_init) B.pre
  have hts : ∀ w ∈ lw_g, w.before _ s = true := fun w h => hts0 w (List.mem_cons_of_mem _ h)
  have hown : s.vm.findClass R_S = some m.cls := findClass_of_methodNamed B.named
  have hlocks := B.notSynchronized
  have hin : meth.name = "<init>" := (name_of_methodNamed B.named B.method).1
  subst hsz
  have hD := hD0.self (sz := s.heap.size)
  have hA : ∀ q : Nat, s.heap.size ≤ q → va_A [(h0, .inr (2, [.int 0, .int 0, .int 0, .null]))] s.heap.size q := fun q h => Or.inr h
  have hS : va_S (va_A [(h0, .inr (2, [.int 0, .int 0, .int 0, .null]))] s.heap.size) s.heap s.heap [] := va_S.rf
  have hl := lv_entry ([.ref h0, .int (nI N)]) (n := 2) (Nat.le_of_ble_eq_true rfl)
  rw [lg_entry_eq]
  generalize (lg_sl ([.ref h0, .int (nI N)]) ++ List.replicate (2 - (lg_sl ([.ref h0, .int (nI N)])).length) Slot.unset).toArray = ls at hl ⊢
  have hl : lv_has ls 2 [(0, .ref h0), (1, .int (nI N))] := hl
  refine lv_aload_n hx hb d_S_init_0 rfl (lv_at hl 0 rfl) ?_
  refine W.objInit hx hb hown (hts _ m_lo_S) (hts _ m_inst_obj) (hts _ m_code_obj) rfl (by rw [hml]; exact hl.1) rfl d_S_init_1 (Nat.le_of_ble_eq_true rfl) (Nat.le_of_ble_eq_true rfl) ?_
  refine W.eq (g2 := F0 m 4 ls []) rfl ?_
  refine lv_aload_n hx hb d_S_init_4 rfl (lv_at hl 0 rfl) ?_
  refine lv_iload_n hx hb d_S_init_5 rfl (lv_at hl 1 rfl) ?_
  refine lv_iconst (v := 2) hx hb d_S_init_6 (by decide) ?_
  refine lv_isub hx hb d_S_init_7 ?_
  refine k_top (nI (N - 2)) (pk_sub (a := N) (b := 2) (by omega)) ?_
  refine va_putF (D := D) (ci := 2) (v := .int (nI (N - 2))) (ty := .int) (C := R_S) (T := T_S) (N := 4) hx hb hts (in_S) ty_S tyok_S nm_S hown hK hP hD hS 0 rfl rfl 0 (by decide) (hts _ m_f_S_9) (fun _ h9 => h9) rfl hin rfl (by decide +kernel) rfl rfl (Nat.le_of_ble_eq_true rfl) d_S_init_8 (fun H locs hP hD hS => ?_)
  have hP : va_P D vwCl [(h0, .inr (2, [.int (nI (N - 2)), .int 0, .int 0, .null]))] H := hP
  have hD : va_D (va_A [(h0, .inr (2, [.int 0, .int 0, .int 0, .null]))] s.heap.size) [(h0, .inr (2, [.int (nI (N - 2)), .int 0, .int 0, .null]))] := hD
  refine lv_aload_n hx hb d_S_init_11 rfl (lv_at hl 0 rfl) ?_
  refine lv_iload_n hx hb d_S_init_12 rfl (lv_at hl 1 rfl) ?_
  refine lv_iconst (v := 2) hx hb d_S_init_13 (by decide) ?_
  refine lv_isub hx hb d_S_init_14 ?_
  refine k_top (nI (N - 2)) (pk_sub (a := N) (b := 2) (by omega)) ?_
  refine va_putF (D := D) (ci := 2) (v := .int (nI (N - 2))) (ty := .int) (C := R_S) (T := T_S) (N := 4) hx hb hts (in_S) ty_S tyok_S nm_S hown hK hP hD hS 0 rfl rfl 1 (by decide) (hts _ m_f_S_15) (fun _ h9 => h9) rfl hin rfl (by decide +kernel) rfl rfl (Nat.le_of_ble_eq_true rfl) d_S_init_15 (fun H locs hP hD hS => ?_)
  have hP : va_P D vwCl [(h0, .inr (2, [.int (nI (N - 2)), .int (nI (N - 2)), .int 0, .null]))] H := hP
  have hD : va_D (va_A [(h0, .inr (2, [.int 0, .int 0, .int 0, .null]))] s.heap.size) [(h0, .inr (2, [.int (nI (N - 2)), .int (nI (N - 2)), .int 0, .null]))] := hD
  refine lv_aload_n hx hb d_S_init_18 rfl (lv_at hl 0 rfl) ?_
  refine lv_iload_n hx hb d_S_init_19 rfl (lv_at hl 1 rfl) ?_
  refine lv_iconst (v := 1) hx hb d_S_init_20 (by decide) ?_
  refine lv_isub hx hb d_S_init_21 ?_
  refine k_top (nI (N - 1)) (pk_sub (a := N) (b := 1) (by omega)) ?_
  refine va_putF (D := D) (ci := 2) (v := .int (nI (N - 1))) (ty := .int) (C := R_S) (T := T_S) (N := 4) hx hb hts (in_S) ty_S tyok_S nm_S hown hK hP hD hS 0 rfl rfl 2 (by decide) (hts _ m_f_S_18) (fun _ h9 => h9) rfl hin rfl (by decide +kernel) rfl rfl (Nat.le_of_ble_eq_true rfl) d_S_init_22 (fun H locs hP hD hS => ?_)
  have hP : va_P D vwCl [(h0, .inr (2, [.int (nI (N - 2)), .int (nI (N - 2)), .int (nI (N - 1)), .null]))] H := hP
  have hD : va_D (va_A [(h0, .inr (2, [.int 0, .int 0, .int 0, .null]))] s.heap.size) [(h0, .inr (2, [.int (nI (N - 2)), .int (nI (N - 2)), .int (nI (N - 1)), .null]))] := hD
  refine lv_aload_n hx hb d_S_init_25 rfl (lv_at hl 0 rfl) ?_
  refine lv_iload_n hx hb d_S_init_26 rfl (lv_at hl 1 rfl) ?_
  have hk1 : 0 + N ≤ 10 := by first | omega | decide
  refine k_newa (a := N) hx hb (hts _ m_arr) hK hP hD hS hA (by first | omega | decide) (Nat.le_of_ble_eq_true rfl) hk1 d_S_init_27 (fun q1 H hP hD hS => ?_)
  have hP : va_P D vwCl [(h0, .inr (2, [.int (nI (N - 2)), .int (nI (N - 2)), .int (nI (N - 1)), .null])), (q1, .inl (cA, N, .inl (fun _ => 0)))] H := hP
  have hD : va_D (va_A [(h0, .inr (2, [.int 0, .int 0, .int 0, .null]))] s.heap.size) [(h0, .inr (2, [.int (nI (N - 2)), .int (nI (N - 2)), .int (nI (N - 1)), .null])), (q1, .inl (cA, N, .inl (fun _ => 0)))] := hD
  refine W.widen (k := 1) (n := 10) (by first | decide | omega) (by first | decide | omega) ?_
  refine va_putF (D := D) (ci := 2) (v := .ref q1) (ty := .array .int) (C := R_S) (T := T_S) (N := 4) hx hb hts (in_S) ty_S tyok_S nm_S hown hK hP hD hS 0 rfl rfl 3 (by decide) (hts _ m_f_S_21) (fun _ h9 => h9) rfl hin rfl (by decide +kernel) rfl rfl (Nat.le_of_ble_eq_true rfl) d_S_init_29 (fun H locs hP hD hS => ?_)
  have hP : va_P D vwCl [(h0, .inr (2, [.int (nI (N - 2)), .int (nI (N - 2)), .int (nI (N - 1)), .ref q1])), (q1, .inl (cA, N, .inl (fun _ => 0)))] H := hP
  have hD : va_D (va_A [(h0, .inr (2, [.int 0, .int 0, .int 0, .null]))] s.heap.size) [(h0, .inr (2, [.int (nI (N - 2)), .int (nI (N - 2)), .int (nI (N - 1)), .ref q1])), (q1, .inl (cA, N, .inl (fun _ => 0)))] := hD
  exact W.vret hx hb hr (fun t ht hW => ⟨⟨q1, rfl, trivial, by rw [ht]; exact hP, hD⟩, hS.F ht⟩) hS.2.2 d_S_init_32
set_option maxHeartbeats 4000000 in
set_option maxRecDepth 100000 in
theorem c_DualParityArray_init (l : Launch) (D : va_G) (cA : ClassId) (h0 sz : Nat) (N S : Nat) (gN4 : 4 ≤ N) (gN : N ≤ 10) (gS1 : 1 ≤ S) (gS : S ≤ 16) (a b g le : Int32) (ha : wth a 4 10 = nI N) (hb9 : wth b 1 16 = nI S) (hg : wth g 0 4 = le) : Met l y_A_init w_A_init ({ frames := 2, cells := 7, slots := 202, locals := 60 }) (va_Pc [.ref h0, .int a, .int b, .int g] (k_N D cA [(h0, .inr (3, [.int 0, .int 0, .null, .null, .null, .int 0, .int 0, .int 0, .int 0, .int 0, .int 0]))] sz)) (va_Qv (fun (_ : {u : Nat → Nat // u 0 = h0}) => True) (fun u t => va_P D vwCl (wC cA u.1 N S (cs0 N S le)) t.heap ∧ va_D (va_A [(h0, .inr (3, [.int 0, .int 0, .null, .null, .null, .int 0, .int 0, .int 0, .int 0, .int 0, .int 0]))] sz) (wC cA u.1 N S (cs0 N S le))) (va_A [(h0, .inr (3, [.int 0, .int 0, .null, .null, .null, .int 0, .int 0, .int 0, .int 0, .int 0, .int 0]))] sz)) 7 202 (va_A [(h0, .inr (3, [.int 0, .int 0, .null, .null, .null, .int 0, .int 0, .int 0, .int 0, .int 0, .int 0]))] sz) := by
  refine Met.ofW (cc := b_A_init) (maxL := 5) (ret := none) (by decide) rfl ?_
  intro p e s m args below meth c s₁ B hml hv
  obtain ⟨rfl, hsz, hP, hK, hD0⟩ := hv
  have hx := B.exec
  have hb := B.bytes
  have hr := B.returns
  have hts0 := atoms_spec (ws := w_A_init) B.pre
  have hts : ∀ w ∈ lw_g, w.before _ s = true := fun w h => hts0 w (List.mem_cons_of_mem _ h)
  have hown : s.vm.findClass R_A = some m.cls := findClass_of_methodNamed B.named
  have hlocks := B.notSynchronized
  have hin : meth.name = "<init>" := (name_of_methodNamed B.named B.method).1
  subst hsz
  have hD := hD0.self (sz := s.heap.size)
  have hA : ∀ q : Nat, s.heap.size ≤ q → va_A [(h0, .inr (3, [.int 0, .int 0, .null, .null, .null, .int 0, .int 0, .int 0, .int 0, .int 0, .int 0]))] s.heap.size q := fun q h => Or.inr h
  have hS : va_S (va_A [(h0, .inr (3, [.int 0, .int 0, .null, .null, .null, .int 0, .int 0, .int 0, .int 0, .int 0, .int 0]))] s.heap.size) s.heap s.heap [] := va_S.rf
  have hl := lv_entry ([.ref h0, .int a, .int b, .int g]) (n := 5) (Nat.le_of_ble_eq_true rfl)
  rw [lg_entry_eq]
  generalize (lg_sl ([.ref h0, .int a, .int b, .int g]) ++ List.replicate (5 - (lg_sl ([.ref h0, .int a, .int b, .int g])).length) Slot.unset).toArray = ls at hl ⊢
  have hl : lv_has ls 5 [(0, .ref h0), (1, .int a), (2, .int b), (3, .int g)] := hl
  refine lv_aload_n hx hb d_A_init_0 rfl (lv_at hl 0 rfl) ?_
  refine W.objInit hx hb hown (hts _ m_lo_A) (hts _ m_inst_obj) (hts _ m_code_obj) rfl (by rw [hml]; exact hl.1) rfl d_A_init_1 (Nat.le_of_ble_eq_true rfl) (Nat.le_of_ble_eq_true rfl) ?_
  refine W.eq (g2 := F0 m 4 ls []) rfl ?_
  refine lv_iload_n hx hb d_A_init_4 rfl (lv_at hl 1 rfl) ?_
  refine lv_iconst (v := 4) hx hb d_A_init_5 (by decide) ?_
  refine lv_bipush (v := 10) hx hb d_A_init_6 (by decide) ?_
  refine k_roi (va_runS (As := [.int a, .int 4, .int 10]) (rest := []) ⟨hx, hb, hml, hown, hts⟩ (c_DualParityArray_within l D a 4 10) (k_cwS 3 hts m_code_A_within m_ini_A m_l_A_9 m_stat_A_within h_A_within rfl rfl ⟨Nat.le_of_ble_eq_true rfl, Nat.le_of_ble_eq_true rfl⟩) k_s0 rfl rfl hl.1 rfl (lv_room (Nat.le_of_ble_eq_true rfl)) d_A_init_8 ⟨Nat.le_of_ble_eq_true rfl, Nat.le_of_ble_eq_true rfl⟩) ?_
  refine k_top (nI N) ha ?_
  refine lv_istore (lv' := [(4, .int (nI N)), (0, .ref h0), (1, .int a), (2, .int b), (3, .int g)]) hx hb d_A_init_11 hl (by decide) rfl (fun ls hl => ?_)
  refine lv_aload_n hx hb d_A_init_13 rfl (lv_at hl 1 rfl) ?_
  refine lv_iload_n hx hb d_A_init_14 rfl (lv_at hl 3 rfl) ?_
  refine lv_iconst (v := 1) hx hb d_A_init_15 (by decide) ?_
  refine lv_bipush (v := 16) hx hb d_A_init_16 (by decide) ?_
  refine k_roi (va_runS (As := [.int b, .int 1, .int 16]) (rest := [.ref h0]) ⟨hx, hb, hml, hown, hts⟩ (c_DualParityArray_within l D b 1 16) (k_cwS 3 hts m_code_A_within m_ini_A m_l_A_9 m_stat_A_within h_A_within rfl rfl ⟨Nat.le_of_ble_eq_true rfl, Nat.le_of_ble_eq_true rfl⟩) k_s0 rfl rfl hl.1 rfl (lv_room (Nat.le_of_ble_eq_true rfl)) d_A_init_18 ⟨Nat.le_of_ble_eq_true rfl, Nat.le_of_ble_eq_true rfl⟩) ?_
  refine k_top (nI S) hb9 ?_
  refine va_putF (D := D) (ci := 3) (v := .int (nI S)) (ty := .int) (C := R_A) (T := T_A) (N := 11) hx hb hts (in_A) ty_A tyok_A nm_A hown hK hP hD hS 0 rfl rfl 0 (by decide) (hts _ m_f_A_13) (fun _ h9 => h9) rfl hin rfl (by decide +kernel) rfl rfl (Nat.le_of_ble_eq_true rfl) d_A_init_21 (fun H locs hP hD hS => ?_)
  have hP : va_P D vwCl [(h0, .inr (3, [.int (nI S), .int 0, .null, .null, .null, .int 0, .int 0, .int 0, .int 0, .int 0, .int 0]))] H := hP
  have hD : va_D (va_A [(h0, .inr (3, [.int 0, .int 0, .null, .null, .null, .int 0, .int 0, .int 0, .int 0, .int 0, .int 0]))] s.heap.size) [(h0, .inr (3, [.int (nI S), .int 0, .null, .null, .null, .int 0, .int 0, .int 0, .int 0, .int 0, .int 0]))] := hD
  refine lv_aload_n hx hb d_A_init_24 rfl (lv_at hl 1 rfl) ?_
  refine lv_iload hx hb d_A_init_25 (lv_at hl 0 rfl) ?_
  refine lv_iconst (v := 2) hx hb d_A_init_27 (by decide) ?_
  refine lv_isub hx hb d_A_init_28 ?_
  refine k_top (nI (N - 2)) (pk_sub (a := N) (b := 2) (by omega)) ?_
  refine va_putF (D := D) (ci := 3) (v := .int (nI (N - 2))) (ty := .int) (C := R_A) (T := T_A) (N := 11) hx hb hts (in_A) ty_A tyok_A nm_A hown hK hP hD hS 0 rfl rfl 1 (by decide) (hts _ m_f_A_17) (fun _ h9 => h9) rfl hin rfl (by decide +kernel) rfl rfl (Nat.le_of_ble_eq_true rfl) d_A_init_29 (fun H locs hP hD hS => ?_)
  have hP : va_P D vwCl [(h0, .inr (3, [.int (nI S), .int (nI (N - 2)), .null, .null, .null, .int 0, .int 0, .int 0, .int 0, .int 0, .int 0]))] H := hP
  have hD : va_D (va_A [(h0, .inr (3, [.int 0, .int 0, .null, .null, .null, .int 0, .int 0, .int 0, .int 0, .int 0, .int 0]))] s.heap.size) [(h0, .inr (3, [.int (nI S), .int (nI (N - 2)), .null, .null, .null, .int 0, .int 0, .int 0, .int 0, .int 0, .int 0]))] := hD
  refine lv_aload_n hx hb d_A_init_32 rfl (lv_at hl 1 rfl) ?_
  refine va_new (ci := 0) (fs := [.int 0, .int 0, .null, .null]) (C := R_D) (T := T_D) (N := 4) hx hb hts (in_D) ty_D tyok_D hown (hts _ m_k_A_20) (hts _ m_new_D) (hts _ m_ini_D) hK hP hD hS hA rfl (fun j hj => bl_D j hj) (Nat.le_of_ble_eq_true rfl) (Nat.le_of_ble_eq_true rfl) d_A_init_33 (fun q1 H hP hD hS => ?_)
  have hP : va_P D vwCl [(h0, .inr (3, [.int (nI S), .int (nI (N - 2)), .null, .null, .null, .int 0, .int 0, .int 0, .int 0, .int 0, .int 0])), (q1, .inr (0, [.int 0, .int 0, .null, .null]))] H := hP
  have hD : va_D (va_A [(h0, .inr (3, [.int 0, .int 0, .null, .null, .null, .int 0, .int 0, .int 0, .int 0, .int 0, .int 0]))] s.heap.size) [(h0, .inr (3, [.int (nI S), .int (nI (N - 2)), .null, .null, .null, .int 0, .int 0, .int 0, .int 0, .int 0, .int 0])), (q1, .inr (0, [.int 0, .int 0, .null, .null]))] := hD
  refine W.widen (k := 1) (n := 4) (by first | decide | omega) (by first | decide | omega) ?_
  refine lv_dup hx hb d_A_init_36 rfl ?_
  refine lv_iload hx hb d_A_init_37 (lv_at hl 0 rfl) ?_
  refine lv_aload_n hx hb d_A_init_39 rfl (lv_at hl 1 rfl) ?_
  refine va_get (D := D) (ci := 3) (v := .int (nI S)) (C := R_A) (T := T_A) (N := 11) hx hb hts (in_A) hown hK hP 0 rfl rfl 0 (by decide) (hts _ m_f_A_13) (fun _ h9 => h9) rfl d_A_init_40 ?_
  refine k_ini (wr := [(h0, .inr (3, [.int (nI S), .int (nI (N - 2)), .null, .null, .null, .int 0, .int 0, .int 0, .int 0, .int 0, .int 0]))]) (va_runI (As := [.int (nI N), .int (nI S)]) (rest := [.ref q1, .ref h0]) ⟨hx, hb, hml, hown, hts⟩ (c_Disks_init l D cA q1 _ N S gN4 gN gS1 gS) (k_cwI 2 hts m_code_D_init m_ini_D m_l_A_22 m_inst_D_init h_D_init rfl rfl rfl ⟨Nat.le_of_ble_eq_true rfl, Nat.le_of_ble_eq_true rfl⟩) (k_pN hP hK hD [1] (by decide) rfl) rfl rfl hl.1 rfl (lv_room (Nat.le_of_ble_eq_true rfl)) d_A_init_43 ⟨Nat.le_of_ble_eq_true rfl, Nat.le_of_ble_eq_true rfl⟩) hP hS hD hA [1] [0] rfl rfl (by decide) (by decide) (fun u H locs hP hD hS => ?_)
  have hP : va_P D vwCl [(h0, .inr (3, [.int (nI S), .int (nI (N - 2)), .null, .null, .null, .int 0, .int 0, .int 0, .int 0, .int 0, .int 0])), (q1, .inr (0, [.int (nI N), .int (nI S), .ref u.1, .ref u.2])), (u.1, .inl (cA, N * S, .inl (fun _ => 0))), (u.2, .inl (cA, N, .inl (fil N (nI S))))] H := hP
  have hD : va_D (va_A [(h0, .inr (3, [.int 0, .int 0, .null, .null, .null, .int 0, .int 0, .int 0, .int 0, .int 0, .int 0]))] s.heap.size) [(h0, .inr (3, [.int (nI S), .int (nI (N - 2)), .null, .null, .null, .int 0, .int 0, .int 0, .int 0, .int 0, .int 0])), (q1, .inr (0, [.int (nI N), .int (nI S), .ref u.1, .ref u.2])), (u.1, .inl (cA, N * S, .inl (fun _ => 0))), (u.2, .inl (cA, N, .inl (fil N (nI S))))] := hD
  refine W.widen (k := 3) (n := 174) (by first | decide | omega) (by first | decide | omega) ?_
  refine va_putF (D := D) (ci := 3) (v := .ref q1) (ty := .object "DualParityArray$Disks") (C := R_A) (T := T_A) (N := 11) hx hb hts (in_A) ty_A tyok_A nm_A hown hK hP hD hS 0 rfl rfl 2 (by decide) (hts _ m_f_A_25) (fun _ h9 => h9) rfl hin rfl (by decide +kernel) rfl rfl (Nat.le_of_ble_eq_true rfl) d_A_init_46 (fun H locs hP hD hS => ?_)
  have hP : va_P D vwCl [(h0, .inr (3, [.int (nI S), .int (nI (N - 2)), .ref q1, .null, .null, .int 0, .int 0, .int 0, .int 0, .int 0, .int 0])), (q1, .inr (0, [.int (nI N), .int (nI S), .ref u.1, .ref u.2])), (u.1, .inl (cA, N * S, .inl (fun _ => 0))), (u.2, .inl (cA, N, .inl (fil N (nI S))))] H := hP
  have hD : va_D (va_A [(h0, .inr (3, [.int 0, .int 0, .null, .null, .null, .int 0, .int 0, .int 0, .int 0, .int 0, .int 0]))] s.heap.size) [(h0, .inr (3, [.int (nI S), .int (nI (N - 2)), .ref q1, .null, .null, .int 0, .int 0, .int 0, .int 0, .int 0, .int 0])), (q1, .inr (0, [.int (nI N), .int (nI S), .ref u.1, .ref u.2])), (u.1, .inl (cA, N * S, .inl (fun _ => 0))), (u.2, .inl (cA, N, .inl (fil N (nI S))))] := hD
  refine lv_aload_n hx hb d_A_init_49 rfl (lv_at hl 1 rfl) ?_
  refine va_new (ci := 1) (fs := [.null, .int 0, .int 0, .int 0]) (C := R_L) (T := T_L) (N := 4) hx hb hts (in_L) ty_L tyok_L hown (hts _ m_k_A_29) (hts _ m_new_L) (hts _ m_ini_L) hK hP hD hS hA rfl (fun j hj => bl_L j hj) (Nat.le_of_ble_eq_true rfl) (Nat.le_of_ble_eq_true rfl) d_A_init_50 (fun q2 H hP hD hS => ?_)
  have hP : va_P D vwCl [(h0, .inr (3, [.int (nI S), .int (nI (N - 2)), .ref q1, .null, .null, .int 0, .int 0, .int 0, .int 0, .int 0, .int 0])), (q1, .inr (0, [.int (nI N), .int (nI S), .ref u.1, .ref u.2])), (u.1, .inl (cA, N * S, .inl (fun _ => 0))), (u.2, .inl (cA, N, .inl (fil N (nI S)))), (q2, .inr (1, [.null, .int 0, .int 0, .int 0]))] H := hP
  have hD : va_D (va_A [(h0, .inr (3, [.int 0, .int 0, .null, .null, .null, .int 0, .int 0, .int 0, .int 0, .int 0, .int 0]))] s.heap.size) [(h0, .inr (3, [.int (nI S), .int (nI (N - 2)), .ref q1, .null, .null, .int 0, .int 0, .int 0, .int 0, .int 0, .int 0])), (q1, .inr (0, [.int (nI N), .int (nI S), .ref u.1, .ref u.2])), (u.1, .inl (cA, N * S, .inl (fun _ => 0))), (u.2, .inl (cA, N, .inl (fil N (nI S)))), (q2, .inr (1, [.null, .int 0, .int 0, .int 0]))] := hD
  refine W.widen (k := 4) (n := 178) (by first | decide | omega) (by first | decide | omega) ?_
  refine lv_dup hx hb d_A_init_53 rfl ?_
  refine lv_iload hx hb d_A_init_54 (lv_at hl 0 rfl) ?_
  refine k_ini (wr := [(h0, .inr (3, [.int (nI S), .int (nI (N - 2)), .ref q1, .null, .null, .int 0, .int 0, .int 0, .int 0, .int 0, .int 0])), (q1, .inr (0, [.int (nI N), .int (nI S), .ref u.1, .ref u.2])), (u.1, .inl (cA, N * S, .inl (fun _ => 0))), (u.2, .inl (cA, N, .inl (fil N (nI S))))]) (va_runI (As := [.int (nI N)]) (rest := [.ref q2, .ref h0]) ⟨hx, hb, hml, hown, hts⟩ (c_Log_init l D cA q2 _ N gN4 gN) (k_cwI 1 hts m_code_L_init m_ini_L m_l_A_31 m_inst_L_init h_L_init rfl rfl rfl ⟨Nat.le_of_ble_eq_true rfl, Nat.le_of_ble_eq_true rfl⟩) (k_pN hP hK hD [4] (by decide) rfl) rfl rfl hl.1 rfl (lv_room (Nat.le_of_ble_eq_true rfl)) d_A_init_56 ⟨Nat.le_of_ble_eq_true rfl, Nat.le_of_ble_eq_true rfl⟩) hP hS hD hA [4] [0, 1, 2, 3] rfl rfl (by decide) (by decide) (fun v H locs hP hD hS => ?_)
  have hP : va_P D vwCl [(h0, .inr (3, [.int (nI S), .int (nI (N - 2)), .ref q1, .null, .null, .int 0, .int 0, .int 0, .int 0, .int 0, .int 0])), (q1, .inr (0, [.int (nI N), .int (nI S), .ref u.1, .ref u.2])), (u.1, .inl (cA, N * S, .inl (fun _ => 0))), (u.2, .inl (cA, N, .inl (fil N (nI S)))), (q2, .inr (1, [.ref v, .int (-1), .int 0, .int 0])), (v, .inl (cA, N, .inl (fun _ => 0)))] H := hP
  have hD : va_D (va_A [(h0, .inr (3, [.int 0, .int 0, .null, .null, .null, .int 0, .int 0, .int 0, .int 0, .int 0, .int 0]))] s.heap.size) [(h0, .inr (3, [.int (nI S), .int (nI (N - 2)), .ref q1, .null, .null, .int 0, .int 0, .int 0, .int 0, .int 0, .int 0])), (q1, .inr (0, [.int (nI N), .int (nI S), .ref u.1, .ref u.2])), (u.1, .inl (cA, N * S, .inl (fun _ => 0))), (u.2, .inl (cA, N, .inl (fil N (nI S)))), (q2, .inr (1, [.ref v, .int (-1), .int 0, .int 0])), (v, .inl (cA, N, .inl (fun _ => 0)))] := hD
  refine W.widen (k := 5) (n := 188) (by first | decide | omega) (by first | decide | omega) ?_
  refine va_putF (D := D) (ci := 3) (v := .ref q2) (ty := .object "DualParityArray$Log") (C := R_A) (T := T_A) (N := 11) hx hb hts (in_A) ty_A tyok_A nm_A hown hK hP hD hS 0 rfl rfl 3 (by decide) (hts _ m_f_A_34) (fun _ h9 => h9) rfl hin rfl (by decide +kernel) rfl rfl (Nat.le_of_ble_eq_true rfl) d_A_init_59 (fun H locs hP hD hS => ?_)
  have hP : va_P D vwCl [(h0, .inr (3, [.int (nI S), .int (nI (N - 2)), .ref q1, .ref q2, .null, .int 0, .int 0, .int 0, .int 0, .int 0, .int 0])), (q1, .inr (0, [.int (nI N), .int (nI S), .ref u.1, .ref u.2])), (u.1, .inl (cA, N * S, .inl (fun _ => 0))), (u.2, .inl (cA, N, .inl (fil N (nI S)))), (q2, .inr (1, [.ref v, .int (-1), .int 0, .int 0])), (v, .inl (cA, N, .inl (fun _ => 0)))] H := hP
  have hD : va_D (va_A [(h0, .inr (3, [.int 0, .int 0, .null, .null, .null, .int 0, .int 0, .int 0, .int 0, .int 0, .int 0]))] s.heap.size) [(h0, .inr (3, [.int (nI S), .int (nI (N - 2)), .ref q1, .ref q2, .null, .int 0, .int 0, .int 0, .int 0, .int 0, .int 0])), (q1, .inr (0, [.int (nI N), .int (nI S), .ref u.1, .ref u.2])), (u.1, .inl (cA, N * S, .inl (fun _ => 0))), (u.2, .inl (cA, N, .inl (fil N (nI S)))), (q2, .inr (1, [.ref v, .int (-1), .int 0, .int 0])), (v, .inl (cA, N, .inl (fun _ => 0)))] := hD
  refine lv_aload_n hx hb d_A_init_62 rfl (lv_at hl 1 rfl) ?_
  refine va_new (ci := 2) (fs := [.int 0, .int 0, .int 0, .null]) (C := R_S) (T := T_S) (N := 4) hx hb hts (in_S) ty_S tyok_S hown (hts _ m_k_A_38) (hts _ m_new_S) (hts _ m_ini_S) hK hP hD hS hA rfl (fun j hj => bl_S j hj) (Nat.le_of_ble_eq_true rfl) (Nat.le_of_ble_eq_true rfl) d_A_init_63 (fun q3 H hP hD hS => ?_)
  have hP : va_P D vwCl [(h0, .inr (3, [.int (nI S), .int (nI (N - 2)), .ref q1, .ref q2, .null, .int 0, .int 0, .int 0, .int 0, .int 0, .int 0])), (q1, .inr (0, [.int (nI N), .int (nI S), .ref u.1, .ref u.2])), (u.1, .inl (cA, N * S, .inl (fun _ => 0))), (u.2, .inl (cA, N, .inl (fil N (nI S)))), (q2, .inr (1, [.ref v, .int (-1), .int 0, .int 0])), (v, .inl (cA, N, .inl (fun _ => 0))), (q3, .inr (2, [.int 0, .int 0, .int 0, .null]))] H := hP
  have hD : va_D (va_A [(h0, .inr (3, [.int 0, .int 0, .null, .null, .null, .int 0, .int 0, .int 0, .int 0, .int 0, .int 0]))] s.heap.size) [(h0, .inr (3, [.int (nI S), .int (nI (N - 2)), .ref q1, .ref q2, .null, .int 0, .int 0, .int 0, .int 0, .int 0, .int 0])), (q1, .inr (0, [.int (nI N), .int (nI S), .ref u.1, .ref u.2])), (u.1, .inl (cA, N * S, .inl (fun _ => 0))), (u.2, .inl (cA, N, .inl (fil N (nI S)))), (q2, .inr (1, [.ref v, .int (-1), .int 0, .int 0])), (v, .inl (cA, N, .inl (fun _ => 0))), (q3, .inr (2, [.int 0, .int 0, .int 0, .null]))] := hD
  refine W.widen (k := 6) (n := 192) (by first | decide | omega) (by first | decide | omega) ?_
  refine lv_dup hx hb d_A_init_66 rfl ?_
  refine lv_iload hx hb d_A_init_67 (lv_at hl 0 rfl) ?_
  refine k_ini (wr := [(h0, .inr (3, [.int (nI S), .int (nI (N - 2)), .ref q1, .ref q2, .null, .int 0, .int 0, .int 0, .int 0, .int 0, .int 0])), (q1, .inr (0, [.int (nI N), .int (nI S), .ref u.1, .ref u.2])), (u.1, .inl (cA, N * S, .inl (fun _ => 0))), (u.2, .inl (cA, N, .inl (fil N (nI S)))), (q2, .inr (1, [.ref v, .int (-1), .int 0, .int 0])), (v, .inl (cA, N, .inl (fun _ => 0)))]) (va_runI (As := [.int (nI N)]) (rest := [.ref q3, .ref h0]) ⟨hx, hb, hml, hown, hts⟩ (c_Stripe_init l D cA q3 _ N gN4 gN) (k_cwI 1 hts m_code_S_init m_ini_S m_l_A_40 m_inst_S_init h_S_init rfl rfl rfl ⟨Nat.le_of_ble_eq_true rfl, Nat.le_of_ble_eq_true rfl⟩) (k_pN hP hK hD [6] (by decide) rfl) rfl rfl hl.1 rfl (lv_room (Nat.le_of_ble_eq_true rfl)) d_A_init_69 ⟨Nat.le_of_ble_eq_true rfl, Nat.le_of_ble_eq_true rfl⟩) hP hS hD hA [6] [0, 1, 2, 3, 4, 5] rfl rfl (by decide) (by decide) (fun w H locs hP hD hS => ?_)
  have hP : va_P D vwCl [(h0, .inr (3, [.int (nI S), .int (nI (N - 2)), .ref q1, .ref q2, .null, .int 0, .int 0, .int 0, .int 0, .int 0, .int 0])), (q1, .inr (0, [.int (nI N), .int (nI S), .ref u.1, .ref u.2])), (u.1, .inl (cA, N * S, .inl (fun _ => 0))), (u.2, .inl (cA, N, .inl (fil N (nI S)))), (q2, .inr (1, [.ref v, .int (-1), .int 0, .int 0])), (v, .inl (cA, N, .inl (fun _ => 0))), (q3, .inr (2, [.int (nI (N - 2)), .int (nI (N - 2)), .int (nI (N - 1)), .ref w])), (w, .inl (cA, N, .inl (fun _ => 0)))] H := hP
  have hD : va_D (va_A [(h0, .inr (3, [.int 0, .int 0, .null, .null, .null, .int 0, .int 0, .int 0, .int 0, .int 0, .int 0]))] s.heap.size) [(h0, .inr (3, [.int (nI S), .int (nI (N - 2)), .ref q1, .ref q2, .null, .int 0, .int 0, .int 0, .int 0, .int 0, .int 0])), (q1, .inr (0, [.int (nI N), .int (nI S), .ref u.1, .ref u.2])), (u.1, .inl (cA, N * S, .inl (fun _ => 0))), (u.2, .inl (cA, N, .inl (fil N (nI S)))), (q2, .inr (1, [.ref v, .int (-1), .int 0, .int 0])), (v, .inl (cA, N, .inl (fun _ => 0))), (q3, .inr (2, [.int (nI (N - 2)), .int (nI (N - 2)), .int (nI (N - 1)), .ref w])), (w, .inl (cA, N, .inl (fun _ => 0)))] := hD
  refine W.widen (k := 7) (n := 202) (by first | decide | omega) (by first | decide | omega) ?_
  refine va_putF (D := D) (ci := 3) (v := .ref q3) (ty := .object "DualParityArray$Stripe") (C := R_A) (T := T_A) (N := 11) hx hb hts (in_A) ty_A tyok_A nm_A hown hK hP hD hS 0 rfl rfl 4 (by decide) (hts _ m_f_A_41) (fun _ h9 => h9) rfl hin rfl (by decide +kernel) rfl rfl (Nat.le_of_ble_eq_true rfl) d_A_init_72 (fun H locs hP hD hS => ?_)
  have hP : va_P D vwCl [(h0, .inr (3, [.int (nI S), .int (nI (N - 2)), .ref q1, .ref q2, .ref q3, .int 0, .int 0, .int 0, .int 0, .int 0, .int 0])), (q1, .inr (0, [.int (nI N), .int (nI S), .ref u.1, .ref u.2])), (u.1, .inl (cA, N * S, .inl (fun _ => 0))), (u.2, .inl (cA, N, .inl (fil N (nI S)))), (q2, .inr (1, [.ref v, .int (-1), .int 0, .int 0])), (v, .inl (cA, N, .inl (fun _ => 0))), (q3, .inr (2, [.int (nI (N - 2)), .int (nI (N - 2)), .int (nI (N - 1)), .ref w])), (w, .inl (cA, N, .inl (fun _ => 0)))] H := hP
  have hD : va_D (va_A [(h0, .inr (3, [.int 0, .int 0, .null, .null, .null, .int 0, .int 0, .int 0, .int 0, .int 0, .int 0]))] s.heap.size) [(h0, .inr (3, [.int (nI S), .int (nI (N - 2)), .ref q1, .ref q2, .ref q3, .int 0, .int 0, .int 0, .int 0, .int 0, .int 0])), (q1, .inr (0, [.int (nI N), .int (nI S), .ref u.1, .ref u.2])), (u.1, .inl (cA, N * S, .inl (fun _ => 0))), (u.2, .inl (cA, N, .inl (fil N (nI S)))), (q2, .inr (1, [.ref v, .int (-1), .int 0, .int 0])), (v, .inl (cA, N, .inl (fun _ => 0))), (q3, .inr (2, [.int (nI (N - 2)), .int (nI (N - 2)), .int (nI (N - 1)), .ref w])), (w, .inl (cA, N, .inl (fun _ => 0)))] := hD
  refine lv_aload_n hx hb d_A_init_75 rfl (lv_at hl 1 rfl) ?_
  refine lv_iload_n hx hb d_A_init_76 rfl (lv_at hl 4 rfl) ?_
  refine lv_iconst (v := 0) hx hb d_A_init_77 (by decide) ?_
  refine lv_iconst (v := 4) hx hb d_A_init_78 (by decide) ?_
  refine k_roi (va_runS (As := [.int g, .int 0, .int 4]) (rest := [.ref h0]) ⟨hx, hb, hml, hown, hts⟩ (c_DualParityArray_within l D g 0 4) (k_cwS 3 hts m_code_A_within m_ini_A m_l_A_9 m_stat_A_within h_A_within rfl rfl ⟨Nat.le_of_ble_eq_true rfl, Nat.le_of_ble_eq_true rfl⟩) k_s0 rfl rfl hl.1 rfl (lv_room (Nat.le_of_ble_eq_true rfl)) d_A_init_79 ⟨Nat.le_of_ble_eq_true rfl, Nat.le_of_ble_eq_true rfl⟩) ?_
  refine k_top (le) hg ?_
  refine va_put (D := D) (ci := 3) (v := .int le) (ty := .int) (C := R_A) (T := T_A) (N := 11) hx hb hts (in_A) ty_A tyok_A nm_A hown hK hP hD hS 0 rfl rfl 5 (by decide) (hts _ m_f_A_45) (fun _ h9 => h9) rfl (by decide +kernel) rfl rfl (Nat.le_of_ble_eq_true rfl) d_A_init_82 (fun H locs hP hD hS => ?_)
  have hP : va_P D vwCl [(h0, .inr (3, [.int (nI S), .int (nI (N - 2)), .ref q1, .ref q2, .ref q3, .int le, .int 0, .int 0, .int 0, .int 0, .int 0])), (q1, .inr (0, [.int (nI N), .int (nI S), .ref u.1, .ref u.2])), (u.1, .inl (cA, N * S, .inl (fun _ => 0))), (u.2, .inl (cA, N, .inl (fil N (nI S)))), (q2, .inr (1, [.ref v, .int (-1), .int 0, .int 0])), (v, .inl (cA, N, .inl (fun _ => 0))), (q3, .inr (2, [.int (nI (N - 2)), .int (nI (N - 2)), .int (nI (N - 1)), .ref w])), (w, .inl (cA, N, .inl (fun _ => 0)))] H := hP
  have hD : va_D (va_A [(h0, .inr (3, [.int 0, .int 0, .null, .null, .null, .int 0, .int 0, .int 0, .int 0, .int 0, .int 0]))] s.heap.size) [(h0, .inr (3, [.int (nI S), .int (nI (N - 2)), .ref q1, .ref q2, .ref q3, .int le, .int 0, .int 0, .int 0, .int 0, .int 0])), (q1, .inr (0, [.int (nI N), .int (nI S), .ref u.1, .ref u.2])), (u.1, .inl (cA, N * S, .inl (fun _ => 0))), (u.2, .inl (cA, N, .inl (fil N (nI S)))), (q2, .inr (1, [.ref v, .int (-1), .int 0, .int 0])), (v, .inl (cA, N, .inl (fun _ => 0))), (q3, .inr (2, [.int (nI (N - 2)), .int (nI (N - 2)), .int (nI (N - 1)), .ref w])), (w, .inl (cA, N, .inl (fun _ => 0)))] := hD
  refine lv_aload_n hx hb d_A_init_85 rfl (lv_at hl 1 rfl) ?_
  refine lv_iconst (v := (-1)) hx hb d_A_init_86 (by decide) ?_
  refine va_put (D := D) (ci := 3) (v := .int (-1)) (ty := .int) (C := R_A) (T := T_A) (N := 11) hx hb hts (in_A) ty_A tyok_A nm_A hown hK hP hD hS 0 rfl rfl 7 (by decide) (hts _ m_f_A_48) (fun _ h9 => h9) rfl (by decide +kernel) rfl rfl (Nat.le_of_ble_eq_true rfl) d_A_init_87 (fun H locs hP hD hS => ?_)
  have hP : va_P D vwCl [(h0, .inr (3, [.int (nI S), .int (nI (N - 2)), .ref q1, .ref q2, .ref q3, .int le, .int 0, .int (-1), .int 0, .int 0, .int 0])), (q1, .inr (0, [.int (nI N), .int (nI S), .ref u.1, .ref u.2])), (u.1, .inl (cA, N * S, .inl (fun _ => 0))), (u.2, .inl (cA, N, .inl (fil N (nI S)))), (q2, .inr (1, [.ref v, .int (-1), .int 0, .int 0])), (v, .inl (cA, N, .inl (fun _ => 0))), (q3, .inr (2, [.int (nI (N - 2)), .int (nI (N - 2)), .int (nI (N - 1)), .ref w])), (w, .inl (cA, N, .inl (fun _ => 0)))] H := hP
  have hD : va_D (va_A [(h0, .inr (3, [.int 0, .int 0, .null, .null, .null, .int 0, .int 0, .int 0, .int 0, .int 0, .int 0]))] s.heap.size) [(h0, .inr (3, [.int (nI S), .int (nI (N - 2)), .ref q1, .ref q2, .ref q3, .int le, .int 0, .int (-1), .int 0, .int 0, .int 0])), (q1, .inr (0, [.int (nI N), .int (nI S), .ref u.1, .ref u.2])), (u.1, .inl (cA, N * S, .inl (fun _ => 0))), (u.2, .inl (cA, N, .inl (fil N (nI S)))), (q2, .inr (1, [.ref v, .int (-1), .int 0, .int 0])), (v, .inl (cA, N, .inl (fun _ => 0))), (q3, .inr (2, [.int (nI (N - 2)), .int (nI (N - 2)), .int (nI (N - 1)), .ref w])), (w, .inl (cA, N, .inl (fun _ => 0)))] := hD
  have hP9 : va_P D vwCl (wC cA (qf8 h0 q1 u.1 u.2 q3 w q2 v) N S (cs0 N S le)) H := hP.sub [0, 1, 2, 3, 6, 7, 4, 5] rfl
  have hD9 : va_D (va_A [(h0, .inr (3, [.int 0, .int 0, .null, .null, .null, .int 0, .int 0, .int 0, .int 0, .int 0, .int 0]))] s.heap.size) (wC cA (qf8 h0 q1 u.1 u.2 q3 w q2 v) N S (cs0 N S le)) := hD.sub [0, 1, 2, 3, 6, 7, 4, 5] (by decide) rfl
  exact W.vret hx hb hr (fun t ht hW => ⟨⟨⟨qf8 h0 q1 u.1 u.2 q3 w q2 v, rfl⟩, rfl, trivial, by rw [ht]; exact hP9, hD9⟩, hS.F ht⟩) hS.2.2 d_A_init_90
set_option maxHeartbeats 4000000 in
set_option maxRecDepth 100000 in
theorem c_Model_init (l : Launch) (D : va_G) (cA : ClassId) (h0 sz : Nat) (N S : Nat) (gN4 : 4 ≤ N) (gN : N ≤ 10) (gS1 : 1 ≤ S) (gS : S ≤ 16) (a b g le : Int32) (ha : clm a 4 10 = nI N) (hb9 : clm b 1 16 = nI S) (hg : clm g 0 4 = le) : Met l y_M_init w_M_init ({ frames := 1, cells := 4, slots := 190, locals := 12 }) (va_Pc [.ref h0, .int a, .int b, .int g] (k_N D cA [(h0, .inr (4, [.int 0, .int 0, .int 0, .int 0, .int 0, .int 0, .int 0, .int 0, .int 0, .null, .null, .null, .null, .int 0, .int 0, .int 0]))] sz)) (va_Qv (fun (_ : {u : Nat → Nat // u 0 = h0}) => True) (fun u t => va_P D vwCl (wM cA u.1 N S (rs0 N S le)) t.heap ∧ va_D (va_A [(h0, .inr (4, [.int 0, .int 0, .int 0, .int 0, .int 0, .int 0, .int 0, .int 0, .int 0, .null, .null, .null, .null, .int 0, .int 0, .int 0]))] sz) (wM cA u.1 N S (rs0 N S le))) (va_A [(h0, .inr (4, [.int 0, .int 0, .int 0, .int 0, .int 0, .int 0, .int 0, .int 0, .int 0, .null, .null, .null, .null, .int 0, .int 0, .int 0]))] sz)) 4 190 (va_A [(h0, .inr (4, [.int 0, .int 0, .int 0, .int 0, .int 0, .int 0, .int 0, .int 0, .int 0, .null, .null, .null, .null, .int 0, .int 0, .int 0]))] sz) := by
  refine Met.ofW (cc := b_M_init) (maxL := 5) (ret := none) (by decide) rfl ?_
  intro p e s m args below meth c s₁ B hml hv
  obtain ⟨rfl, hsz, hP, hK, hD0⟩ := hv
  have hx := B.exec
  have hb := B.bytes
  have hr := B.returns
  have hts0 := atoms_spec (ws := w_M_init) B.pre
  have hts : ∀ w ∈ lw_g, w.before _ s = true := fun w h => hts0 w (List.mem_cons_of_mem _ h)
  have hown : s.vm.findClass R_M = some m.cls := findClass_of_methodNamed B.named
  have hlocks := B.notSynchronized
  have hin : meth.name = "<init>" := (name_of_methodNamed B.named B.method).1
  subst hsz
  have hD := hD0.self (sz := s.heap.size)
  have hA : ∀ q : Nat, s.heap.size ≤ q → va_A [(h0, .inr (4, [.int 0, .int 0, .int 0, .int 0, .int 0, .int 0, .int 0, .int 0, .int 0, .null, .null, .null, .null, .int 0, .int 0, .int 0]))] s.heap.size q := fun q h => Or.inr h
  have hS : va_S (va_A [(h0, .inr (4, [.int 0, .int 0, .int 0, .int 0, .int 0, .int 0, .int 0, .int 0, .int 0, .null, .null, .null, .null, .int 0, .int 0, .int 0]))] s.heap.size) s.heap s.heap [] := va_S.rf
  have hl := lv_entry ([.ref h0, .int a, .int b, .int g]) (n := 5) (Nat.le_of_ble_eq_true rfl)
  rw [lg_entry_eq]
  generalize (lg_sl ([.ref h0, .int a, .int b, .int g]) ++ List.replicate (5 - (lg_sl ([.ref h0, .int a, .int b, .int g])).length) Slot.unset).toArray = ls at hl ⊢
  have hl : lv_has ls 5 [(0, .ref h0), (1, .int a), (2, .int b), (3, .int g)] := hl
  refine lv_aload_n hx hb d_M_init_0 rfl (lv_at hl 0 rfl) ?_
  refine W.objInit hx hb hown (hts _ m_lo_M) (hts _ m_inst_obj) (hts _ m_code_obj) rfl (by rw [hml]; exact hl.1) rfl d_M_init_1 (Nat.le_of_ble_eq_true rfl) (Nat.le_of_ble_eq_true rfl) ?_
  refine W.eq (g2 := F0 m 4 ls []) rfl ?_
  refine lv_aload_n hx hb d_M_init_4 rfl (lv_at hl 0 rfl) ?_
  refine lv_sipush (v := 160) hx hb d_M_init_5 (by decide) ?_
  have hk1 : 0 + 160 ≤ 190 := by first | omega | decide
  refine k_newa (a := 160) hx hb (hts _ m_arr) hK hP hD hS hA (by first | omega | decide) (Nat.le_of_ble_eq_true rfl) hk1 d_M_init_8 (fun q1 H hP hD hS => ?_)
  have hP : va_P D vwCl [(h0, .inr (4, [.int 0, .int 0, .int 0, .int 0, .int 0, .int 0, .int 0, .int 0, .int 0, .null, .null, .null, .null, .int 0, .int 0, .int 0])), (q1, .inl (cA, 160, .inl (fun _ => 0)))] H := hP
  have hD : va_D (va_A [(h0, .inr (4, [.int 0, .int 0, .int 0, .int 0, .int 0, .int 0, .int 0, .int 0, .int 0, .null, .null, .null, .null, .int 0, .int 0, .int 0]))] s.heap.size) [(h0, .inr (4, [.int 0, .int 0, .int 0, .int 0, .int 0, .int 0, .int 0, .int 0, .int 0, .null, .null, .null, .null, .int 0, .int 0, .int 0])), (q1, .inl (cA, 160, .inl (fun _ => 0)))] := hD
  refine W.widen (k := 1) (n := 160) (by first | decide | omega) (by first | decide | omega) ?_
  refine va_putF (D := D) (ci := 4) (v := .ref q1) (ty := .array .int) (C := R_M) (T := T_M) (N := 16) hx hb hts (in_M) ty_M tyok_M nm_M hown hK hP hD hS 0 rfl rfl 9 (by decide) (hts _ m_f_M_7) (fun _ h9 => h9) rfl hin rfl (by decide +kernel) rfl rfl (Nat.le_of_ble_eq_true rfl) d_M_init_10 (fun H locs hP hD hS => ?_)
  have hP : va_P D vwCl [(h0, .inr (4, [.int 0, .int 0, .int 0, .int 0, .int 0, .int 0, .int 0, .int 0, .int 0, .ref q1, .null, .null, .null, .int 0, .int 0, .int 0])), (q1, .inl (cA, 160, .inl (fun _ => 0)))] H := hP
  have hD : va_D (va_A [(h0, .inr (4, [.int 0, .int 0, .int 0, .int 0, .int 0, .int 0, .int 0, .int 0, .int 0, .null, .null, .null, .null, .int 0, .int 0, .int 0]))] s.heap.size) [(h0, .inr (4, [.int 0, .int 0, .int 0, .int 0, .int 0, .int 0, .int 0, .int 0, .int 0, .ref q1, .null, .null, .null, .int 0, .int 0, .int 0])), (q1, .inl (cA, 160, .inl (fun _ => 0)))] := hD
  refine lv_aload_n hx hb d_M_init_13 rfl (lv_at hl 0 rfl) ?_
  refine lv_bipush (v := 10) hx hb d_M_init_14 (by decide) ?_
  have hk2 : 160 + 10 ≤ 190 := by first | omega | decide
  refine k_newa (a := 10) hx hb (hts _ m_arr) hK hP hD hS hA (by first | omega | decide) (Nat.le_of_ble_eq_true rfl) hk2 d_M_init_16 (fun q2 H hP hD hS => ?_)
  have hP : va_P D vwCl [(h0, .inr (4, [.int 0, .int 0, .int 0, .int 0, .int 0, .int 0, .int 0, .int 0, .int 0, .ref q1, .null, .null, .null, .int 0, .int 0, .int 0])), (q1, .inl (cA, 160, .inl (fun _ => 0))), (q2, .inl (cA, 10, .inl (fun _ => 0)))] H := hP
  have hD : va_D (va_A [(h0, .inr (4, [.int 0, .int 0, .int 0, .int 0, .int 0, .int 0, .int 0, .int 0, .int 0, .null, .null, .null, .null, .int 0, .int 0, .int 0]))] s.heap.size) [(h0, .inr (4, [.int 0, .int 0, .int 0, .int 0, .int 0, .int 0, .int 0, .int 0, .int 0, .ref q1, .null, .null, .null, .int 0, .int 0, .int 0])), (q1, .inl (cA, 160, .inl (fun _ => 0))), (q2, .inl (cA, 10, .inl (fun _ => 0)))] := hD
  refine W.widen (k := 2) (n := 170) (by first | decide | omega) (by first | decide | omega) ?_
  refine va_putF (D := D) (ci := 4) (v := .ref q2) (ty := .array .int) (C := R_M) (T := T_M) (N := 16) hx hb hts (in_M) ty_M tyok_M nm_M hown hK hP hD hS 0 rfl rfl 10 (by decide) (hts _ m_f_M_13) (fun _ h9 => h9) rfl hin rfl (by decide +kernel) rfl rfl (Nat.le_of_ble_eq_true rfl) d_M_init_18 (fun H locs hP hD hS => ?_)
  have hP : va_P D vwCl [(h0, .inr (4, [.int 0, .int 0, .int 0, .int 0, .int 0, .int 0, .int 0, .int 0, .int 0, .ref q1, .ref q2, .null, .null, .int 0, .int 0, .int 0])), (q1, .inl (cA, 160, .inl (fun _ => 0))), (q2, .inl (cA, 10, .inl (fun _ => 0)))] H := hP
  have hD : va_D (va_A [(h0, .inr (4, [.int 0, .int 0, .int 0, .int 0, .int 0, .int 0, .int 0, .int 0, .int 0, .null, .null, .null, .null, .int 0, .int 0, .int 0]))] s.heap.size) [(h0, .inr (4, [.int 0, .int 0, .int 0, .int 0, .int 0, .int 0, .int 0, .int 0, .int 0, .ref q1, .ref q2, .null, .null, .int 0, .int 0, .int 0])), (q1, .inl (cA, 160, .inl (fun _ => 0))), (q2, .inl (cA, 10, .inl (fun _ => 0)))] := hD
  refine lv_aload_n hx hb d_M_init_21 rfl (lv_at hl 0 rfl) ?_
  refine lv_bipush (v := 10) hx hb d_M_init_22 (by decide) ?_
  have hk3 : 170 + 10 ≤ 190 := by first | omega | decide
  refine k_newa (a := 10) hx hb (hts _ m_arr) hK hP hD hS hA (by first | omega | decide) (Nat.le_of_ble_eq_true rfl) hk3 d_M_init_24 (fun q3 H hP hD hS => ?_)
  have hP : va_P D vwCl [(h0, .inr (4, [.int 0, .int 0, .int 0, .int 0, .int 0, .int 0, .int 0, .int 0, .int 0, .ref q1, .ref q2, .null, .null, .int 0, .int 0, .int 0])), (q1, .inl (cA, 160, .inl (fun _ => 0))), (q2, .inl (cA, 10, .inl (fun _ => 0))), (q3, .inl (cA, 10, .inl (fun _ => 0)))] H := hP
  have hD : va_D (va_A [(h0, .inr (4, [.int 0, .int 0, .int 0, .int 0, .int 0, .int 0, .int 0, .int 0, .int 0, .null, .null, .null, .null, .int 0, .int 0, .int 0]))] s.heap.size) [(h0, .inr (4, [.int 0, .int 0, .int 0, .int 0, .int 0, .int 0, .int 0, .int 0, .int 0, .ref q1, .ref q2, .null, .null, .int 0, .int 0, .int 0])), (q1, .inl (cA, 160, .inl (fun _ => 0))), (q2, .inl (cA, 10, .inl (fun _ => 0))), (q3, .inl (cA, 10, .inl (fun _ => 0)))] := hD
  refine W.widen (k := 3) (n := 180) (by first | decide | omega) (by first | decide | omega) ?_
  refine va_putF (D := D) (ci := 4) (v := .ref q3) (ty := .array .int) (C := R_M) (T := T_M) (N := 16) hx hb hts (in_M) ty_M tyok_M nm_M hown hK hP hD hS 0 rfl rfl 11 (by decide) (hts _ m_f_M_16) (fun _ h9 => h9) rfl hin rfl (by decide +kernel) rfl rfl (Nat.le_of_ble_eq_true rfl) d_M_init_26 (fun H locs hP hD hS => ?_)
  have hP : va_P D vwCl [(h0, .inr (4, [.int 0, .int 0, .int 0, .int 0, .int 0, .int 0, .int 0, .int 0, .int 0, .ref q1, .ref q2, .ref q3, .null, .int 0, .int 0, .int 0])), (q1, .inl (cA, 160, .inl (fun _ => 0))), (q2, .inl (cA, 10, .inl (fun _ => 0))), (q3, .inl (cA, 10, .inl (fun _ => 0)))] H := hP
  have hD : va_D (va_A [(h0, .inr (4, [.int 0, .int 0, .int 0, .int 0, .int 0, .int 0, .int 0, .int 0, .int 0, .null, .null, .null, .null, .int 0, .int 0, .int 0]))] s.heap.size) [(h0, .inr (4, [.int 0, .int 0, .int 0, .int 0, .int 0, .int 0, .int 0, .int 0, .int 0, .ref q1, .ref q2, .ref q3, .null, .int 0, .int 0, .int 0])), (q1, .inl (cA, 160, .inl (fun _ => 0))), (q2, .inl (cA, 10, .inl (fun _ => 0))), (q3, .inl (cA, 10, .inl (fun _ => 0)))] := hD
  refine lv_aload_n hx hb d_M_init_29 rfl (lv_at hl 0 rfl) ?_
  refine lv_bipush (v := 10) hx hb d_M_init_30 (by decide) ?_
  have hk4 : 180 + 10 ≤ 190 := by first | omega | decide
  refine k_newa (a := 10) hx hb (hts _ m_arr) hK hP hD hS hA (by first | omega | decide) (Nat.le_of_ble_eq_true rfl) hk4 d_M_init_32 (fun q4 H hP hD hS => ?_)
  have hP : va_P D vwCl [(h0, .inr (4, [.int 0, .int 0, .int 0, .int 0, .int 0, .int 0, .int 0, .int 0, .int 0, .ref q1, .ref q2, .ref q3, .null, .int 0, .int 0, .int 0])), (q1, .inl (cA, 160, .inl (fun _ => 0))), (q2, .inl (cA, 10, .inl (fun _ => 0))), (q3, .inl (cA, 10, .inl (fun _ => 0))), (q4, .inl (cA, 10, .inl (fun _ => 0)))] H := hP
  have hD : va_D (va_A [(h0, .inr (4, [.int 0, .int 0, .int 0, .int 0, .int 0, .int 0, .int 0, .int 0, .int 0, .null, .null, .null, .null, .int 0, .int 0, .int 0]))] s.heap.size) [(h0, .inr (4, [.int 0, .int 0, .int 0, .int 0, .int 0, .int 0, .int 0, .int 0, .int 0, .ref q1, .ref q2, .ref q3, .null, .int 0, .int 0, .int 0])), (q1, .inl (cA, 160, .inl (fun _ => 0))), (q2, .inl (cA, 10, .inl (fun _ => 0))), (q3, .inl (cA, 10, .inl (fun _ => 0))), (q4, .inl (cA, 10, .inl (fun _ => 0)))] := hD
  refine W.widen (k := 4) (n := 190) (by first | decide | omega) (by first | decide | omega) ?_
  refine va_putF (D := D) (ci := 4) (v := .ref q4) (ty := .array .int) (C := R_M) (T := T_M) (N := 16) hx hb hts (in_M) ty_M tyok_M nm_M hown hK hP hD hS 0 rfl rfl 12 (by decide) (hts _ m_f_M_19) (fun _ h9 => h9) rfl hin rfl (by decide +kernel) rfl rfl (Nat.le_of_ble_eq_true rfl) d_M_init_34 (fun H locs hP hD hS => ?_)
  have hP : va_P D vwCl [(h0, .inr (4, [.int 0, .int 0, .int 0, .int 0, .int 0, .int 0, .int 0, .int 0, .int 0, .ref q1, .ref q2, .ref q3, .ref q4, .int 0, .int 0, .int 0])), (q1, .inl (cA, 160, .inl (fun _ => 0))), (q2, .inl (cA, 10, .inl (fun _ => 0))), (q3, .inl (cA, 10, .inl (fun _ => 0))), (q4, .inl (cA, 10, .inl (fun _ => 0)))] H := hP
  have hD : va_D (va_A [(h0, .inr (4, [.int 0, .int 0, .int 0, .int 0, .int 0, .int 0, .int 0, .int 0, .int 0, .null, .null, .null, .null, .int 0, .int 0, .int 0]))] s.heap.size) [(h0, .inr (4, [.int 0, .int 0, .int 0, .int 0, .int 0, .int 0, .int 0, .int 0, .int 0, .ref q1, .ref q2, .ref q3, .ref q4, .int 0, .int 0, .int 0])), (q1, .inl (cA, 160, .inl (fun _ => 0))), (q2, .inl (cA, 10, .inl (fun _ => 0))), (q3, .inl (cA, 10, .inl (fun _ => 0))), (q4, .inl (cA, 10, .inl (fun _ => 0)))] := hD
  refine lv_aload_n hx hb d_M_init_37 rfl (lv_at hl 0 rfl) ?_
  refine lv_iconst (v := (-1)) hx hb d_M_init_38 (by decide) ?_
  refine va_put (D := D) (ci := 4) (v := .int (-1)) (ty := .int) (C := R_M) (T := T_M) (N := 16) hx hb hts (in_M) ty_M tyok_M nm_M hown hK hP hD hS 0 rfl rfl 13 (by decide) (hts _ m_f_M_22) (fun _ h9 => h9) rfl (by decide +kernel) rfl rfl (Nat.le_of_ble_eq_true rfl) d_M_init_39 (fun H locs hP hD hS => ?_)
  have hP : va_P D vwCl [(h0, .inr (4, [.int 0, .int 0, .int 0, .int 0, .int 0, .int 0, .int 0, .int 0, .int 0, .ref q1, .ref q2, .ref q3, .ref q4, .int (-1), .int 0, .int 0])), (q1, .inl (cA, 160, .inl (fun _ => 0))), (q2, .inl (cA, 10, .inl (fun _ => 0))), (q3, .inl (cA, 10, .inl (fun _ => 0))), (q4, .inl (cA, 10, .inl (fun _ => 0)))] H := hP
  have hD : va_D (va_A [(h0, .inr (4, [.int 0, .int 0, .int 0, .int 0, .int 0, .int 0, .int 0, .int 0, .int 0, .null, .null, .null, .null, .int 0, .int 0, .int 0]))] s.heap.size) [(h0, .inr (4, [.int 0, .int 0, .int 0, .int 0, .int 0, .int 0, .int 0, .int 0, .int 0, .ref q1, .ref q2, .ref q3, .ref q4, .int (-1), .int 0, .int 0])), (q1, .inl (cA, 160, .inl (fun _ => 0))), (q2, .inl (cA, 10, .inl (fun _ => 0))), (q3, .inl (cA, 10, .inl (fun _ => 0))), (q4, .inl (cA, 10, .inl (fun _ => 0)))] := hD
  refine lv_aload_n hx hb d_M_init_42 rfl (lv_at hl 0 rfl) ?_
  refine k_via (g2 := F0 m 64 ls (.int (nI N) :: [.ref h0])) ?_ (fun J => ?_)
  rotate_left
  refine lv_iload_n hx hb d_M_init_43 rfl (lv_at hl 1 rfl) ?_
  refine lv_iconst (v := 4) hx hb d_M_init_44 (by decide) ?_
  refine lv_icmp_ge (tgt := 52) hx hb d_M_init_45 rfl (fun g => ?_) (fun g => ?_)
  · refine lv_iload_n hx hb d_M_init_52 rfl (lv_at hl 1 rfl) ?_
    refine lv_bipush (v := 10) hx hb d_M_init_53 (by decide) ?_
    refine lv_icmp_le (tgt := 63) hx hb d_M_init_55 rfl (fun g2 => ?_) (fun g2 => ?_)
    · refine lv_iload_n hx hb d_M_init_63 rfl (lv_at hl 1 rfl) ?_
      exact k_top _ (clm_c ha g g2) J
    · refine lv_bipush (v := 10) hx hb d_M_init_58 (by decide) ?_
      refine lv_goto hx hb d_M_init_60 rfl ?_
      exact k_top _ (clm_b ha g g2) J
  · refine lv_iconst (v := 4) hx hb d_M_init_48 (by decide) ?_
    refine lv_goto hx hb d_M_init_49 rfl ?_
    exact k_top _ (clm_a ha g) J
  refine va_put (D := D) (ci := 4) (v := .int (nI N)) (ty := .int) (C := R_M) (T := T_M) (N := 16) hx hb hts (in_M) ty_M tyok_M nm_M hown hK hP hD hS 0 rfl rfl 0 (by decide) (hts _ m_f_M_26) (fun _ h9 => h9) rfl (by decide +kernel) rfl rfl (Nat.le_of_ble_eq_true rfl) d_M_init_64 (fun H locs hP hD hS => ?_)
  have hP : va_P D vwCl [(h0, .inr (4, [.int (nI N), .int 0, .int 0, .int 0, .int 0, .int 0, .int 0, .int 0, .int 0, .ref q1, .ref q2, .ref q3, .ref q4, .int (-1), .int 0, .int 0])), (q1, .inl (cA, 160, .inl (fun _ => 0))), (q2, .inl (cA, 10, .inl (fun _ => 0))), (q3, .inl (cA, 10, .inl (fun _ => 0))), (q4, .inl (cA, 10, .inl (fun _ => 0)))] H := hP
  have hD : va_D (va_A [(h0, .inr (4, [.int 0, .int 0, .int 0, .int 0, .int 0, .int 0, .int 0, .int 0, .int 0, .null, .null, .null, .null, .int 0, .int 0, .int 0]))] s.heap.size) [(h0, .inr (4, [.int (nI N), .int 0, .int 0, .int 0, .int 0, .int 0, .int 0, .int 0, .int 0, .ref q1, .ref q2, .ref q3, .ref q4, .int (-1), .int 0, .int 0])), (q1, .inl (cA, 160, .inl (fun _ => 0))), (q2, .inl (cA, 10, .inl (fun _ => 0))), (q3, .inl (cA, 10, .inl (fun _ => 0))), (q4, .inl (cA, 10, .inl (fun _ => 0)))] := hD
  refine lv_aload_n hx hb d_M_init_67 rfl (lv_at hl 0 rfl) ?_
  refine k_via (g2 := F0 m 89 ls (.int (nI S) :: [.ref h0])) ?_ (fun J => ?_)
  rotate_left
  refine lv_iload_n hx hb d_M_init_68 rfl (lv_at hl 2 rfl) ?_
  refine lv_iconst (v := 1) hx hb d_M_init_69 (by decide) ?_
  refine lv_icmp_ge (tgt := 77) hx hb d_M_init_70 rfl (fun g => ?_) (fun g => ?_)
  · refine lv_iload_n hx hb d_M_init_77 rfl (lv_at hl 2 rfl) ?_
    refine lv_bipush (v := 16) hx hb d_M_init_78 (by decide) ?_
    refine lv_icmp_le (tgt := 88) hx hb d_M_init_80 rfl (fun g2 => ?_) (fun g2 => ?_)
    · refine lv_iload_n hx hb d_M_init_88 rfl (lv_at hl 2 rfl) ?_
      exact k_top _ (clm_c hb9 g g2) J
    · refine lv_bipush (v := 16) hx hb d_M_init_83 (by decide) ?_
      refine lv_goto hx hb d_M_init_85 rfl ?_
      exact k_top _ (clm_b hb9 g g2) J
  · refine lv_iconst (v := 1) hx hb d_M_init_73 (by decide) ?_
    refine lv_goto hx hb d_M_init_74 rfl ?_
    exact k_top _ (clm_a hb9 g) J
  refine va_put (D := D) (ci := 4) (v := .int (nI S)) (ty := .int) (C := R_M) (T := T_M) (N := 16) hx hb hts (in_M) ty_M tyok_M nm_M hown hK hP hD hS 0 rfl rfl 1 (by decide) (hts _ m_f_M_29) (fun _ h9 => h9) rfl (by decide +kernel) rfl rfl (Nat.le_of_ble_eq_true rfl) d_M_init_89 (fun H locs hP hD hS => ?_)
  have hP : va_P D vwCl [(h0, .inr (4, [.int (nI N), .int (nI S), .int 0, .int 0, .int 0, .int 0, .int 0, .int 0, .int 0, .ref q1, .ref q2, .ref q3, .ref q4, .int (-1), .int 0, .int 0])), (q1, .inl (cA, 160, .inl (fun _ => 0))), (q2, .inl (cA, 10, .inl (fun _ => 0))), (q3, .inl (cA, 10, .inl (fun _ => 0))), (q4, .inl (cA, 10, .inl (fun _ => 0)))] H := hP
  have hD : va_D (va_A [(h0, .inr (4, [.int 0, .int 0, .int 0, .int 0, .int 0, .int 0, .int 0, .int 0, .int 0, .null, .null, .null, .null, .int 0, .int 0, .int 0]))] s.heap.size) [(h0, .inr (4, [.int (nI N), .int (nI S), .int 0, .int 0, .int 0, .int 0, .int 0, .int 0, .int 0, .ref q1, .ref q2, .ref q3, .ref q4, .int (-1), .int 0, .int 0])), (q1, .inl (cA, 160, .inl (fun _ => 0))), (q2, .inl (cA, 10, .inl (fun _ => 0))), (q3, .inl (cA, 10, .inl (fun _ => 0))), (q4, .inl (cA, 10, .inl (fun _ => 0)))] := hD
  refine lv_aload_n hx hb d_M_init_92 rfl (lv_at hl 0 rfl) ?_
  refine k_via (g2 := F0 m 111 ls (.int le :: [.ref h0])) ?_ (fun J => ?_)
  rotate_left
  refine lv_iload_n hx hb d_M_init_93 rfl (lv_at hl 3 rfl) ?_
  refine lv_if_ge (tgt := 101) hx hb d_M_init_94 rfl (fun g => ?_) (fun g => ?_)
  · refine lv_iload_n hx hb d_M_init_101 rfl (lv_at hl 3 rfl) ?_
    refine lv_iconst (v := 4) hx hb d_M_init_102 (by decide) ?_
    refine lv_icmp_le (tgt := 110) hx hb d_M_init_103 rfl (fun g2 => ?_) (fun g2 => ?_)
    · refine lv_iload_n hx hb d_M_init_110 rfl (lv_at hl 3 rfl) ?_
      exact k_top _ (clm_c hg g g2) J
    · refine lv_iconst (v := 4) hx hb d_M_init_106 (by decide) ?_
      refine lv_goto hx hb d_M_init_107 rfl ?_
      exact k_top _ (clm_b hg g g2) J
  · refine lv_iconst (v := 0) hx hb d_M_init_97 (by decide) ?_
    refine lv_goto hx hb d_M_init_98 rfl ?_
    exact k_top _ (clm_a hg g) J
  refine va_put (D := D) (ci := 4) (v := .int le) (ty := .int) (C := R_M) (T := T_M) (N := 16) hx hb hts (in_M) ty_M tyok_M nm_M hown hK hP hD hS 0 rfl rfl 2 (by decide) (hts _ m_f_M_32) (fun _ h9 => h9) rfl (by decide +kernel) rfl rfl (Nat.le_of_ble_eq_true rfl) d_M_init_111 (fun H locs hP hD hS => ?_)
  have hP : va_P D vwCl [(h0, .inr (4, [.int (nI N), .int (nI S), .int le, .int 0, .int 0, .int 0, .int 0, .int 0, .int 0, .ref q1, .ref q2, .ref q3, .ref q4, .int (-1), .int 0, .int 0])), (q1, .inl (cA, 160, .inl (fun _ => 0))), (q2, .inl (cA, 10, .inl (fun _ => 0))), (q3, .inl (cA, 10, .inl (fun _ => 0))), (q4, .inl (cA, 10, .inl (fun _ => 0)))] H := hP
  have hD : va_D (va_A [(h0, .inr (4, [.int 0, .int 0, .int 0, .int 0, .int 0, .int 0, .int 0, .int 0, .int 0, .null, .null, .null, .null, .int 0, .int 0, .int 0]))] s.heap.size) [(h0, .inr (4, [.int (nI N), .int (nI S), .int le, .int 0, .int 0, .int 0, .int 0, .int 0, .int 0, .ref q1, .ref q2, .ref q3, .ref q4, .int (-1), .int 0, .int 0])), (q1, .inl (cA, 160, .inl (fun _ => 0))), (q2, .inl (cA, 10, .inl (fun _ => 0))), (q3, .inl (cA, 10, .inl (fun _ => 0))), (q4, .inl (cA, 10, .inl (fun _ => 0)))] := hD
  refine lv_iconst (v := 0) hx hb d_M_init_114 (by decide) ?_
  refine lv_istore (lv' := [(4, .int 0), (0, .ref h0), (1, .int a), (2, .int b), (3, .int g)]) hx hb d_M_init_115 hl (by decide) rfl (fun ls hl => ?_)
  have L117 : ∀ (k i : Nat) (ls : Array Slot) (H : Heap) (locs : List Loc), i + k = N → lv_has ls 5 [(4, .int (nI i)), (0, .ref h0), (1, .int a), (2, .int b), (3, .int g)] → va_P D vwCl [(h0, .inr (4, [.int (nI N), .int (nI S), .int le, .int 0, .int 0, .int 0, .int 0, .int 0, .int 0, .ref q1, .ref q2, .ref q3, .ref q4, .int (-1), .int 0, .int 0])), (q1, .inl (cA, 160, .inl (fun _ => 0))), (q2, .inl (cA, 10, .inl (fil i (nI S)))), (q3, .inl (cA, 10, .inl (fun _ => 0))), (q4, .inl (cA, 10, .inl (fun _ => 0)))] H → va_S (va_A [(h0, .inr (4, [.int 0, .int 0, .int 0, .int 0, .int 0, .int 0, .int 0, .int 0, .int 0, .null, .null, .null, .null, .int 0, .int 0, .int 0]))] s.heap.size) s.heap H locs → W p l e (headSpec w_M_init ({ frames := 1, cells := 4, slots := 190, locals := 12 })).room s m ([.ref h0, .int a, .int b, .int g] : List Value).toArray below meth c H locs 4 190 (MQ below (va_Qv (fun (_ : {u : Nat → Nat // u 0 = h0}) => True) (fun u t => va_P D vwCl (wM cA u.1 N S (rs0 N S le)) t.heap ∧ va_D (va_A [(h0, .inr (4, [.int 0, .int 0, .int 0, .int 0, .int 0, .int 0, .int 0, .int 0, .int 0, .null, .null, .null, .null, .int 0, .int 0, .int 0]))] s.heap.size) (wM cA u.1 N S (rs0 N S le))) (va_A [(h0, .inr (4, [.int 0, .int 0, .int 0, .int 0, .int 0, .int 0, .int 0, .int 0, .int 0, .null, .null, .null, .null, .int 0, .int 0, .int 0]))] s.heap.size)) ([.ref h0, .int a, .int b, .int g] : List Value).toArray s 4 190 (va_A [(h0, .inr (4, [.int 0, .int 0, .int 0, .int 0, .int 0, .int 0, .int 0, .int 0, .int 0, .null, .null, .null, .null, .int 0, .int 0, .int 0]))] s.heap.size)) (F0 m 117 ls []) := by
    intro k
    induction k with
    | zero =>
      intro i ls H locs hi hl hP hS
      obtain rfl : N = i := by omega
      have hD : va_D (va_A [(h0, .inr (4, [.int 0, .int 0, .int 0, .int 0, .int 0, .int 0, .int 0, .int 0, .int 0, .null, .null, .null, .null, .int 0, .int 0, .int 0]))] s.heap.size) [(h0, .inr (4, [.int (nI N), .int (nI S), .int le, .int 0, .int 0, .int 0, .int 0, .int 0, .int 0, .ref q1, .ref q2, .ref q3, .ref q4, .int (-1), .int 0, .int 0])), (q1, .inl (cA, 160, .inl (fun _ => 0))), (q2, .inl (cA, 10, .inl (fil N (nI S)))), (q3, .inl (cA, 10, .inl (fun _ => 0))), (q4, .inl (cA, 10, .inl (fun _ => 0)))] := k_D hD rfl
      refine lv_iload hx hb d_M_init_117 (lv_at hl 0 rfl) ?_
      refine lv_aload_n hx hb d_M_init_119 rfl (lv_at hl 1 rfl) ?_
      refine va_get (D := D) (ci := 4) (v := .int (nI N)) (C := R_M) (T := T_M) (N := 16) hx hb hts (in_M) hown hK hP 0 rfl rfl 0 (by decide) (hts _ m_f_M_26) (fun _ h9 => h9) rfl d_M_init_120 ?_
      refine lv_icmp_ge (tgt := 143) hx hb d_M_init_123 rfl (fun g9 => ?_) (fun g9 => ?_)
      · have hP9 : va_P D vwCl (wM cA (qf5 h0 q1 q2 q3 q4) N S (rs0 N S le)) H := hP
        have hD9 : va_D (va_A [(h0, .inr (4, [.int 0, .int 0, .int 0, .int 0, .int 0, .int 0, .int 0, .int 0, .int 0, .null, .null, .null, .null, .int 0, .int 0, .int 0]))] s.heap.size) (wM cA (qf5 h0 q1 q2 q3 q4) N S (rs0 N S le)) := hD
        exact W.vret hx hb hr (fun t ht hW => ⟨⟨⟨qf5 h0 q1 q2 q3 q4, rfl⟩, rfl, trivial, by rw [ht]; exact hP9, hD9⟩, hS.F ht⟩) hS.2.2 d_M_init_143
      · exact absurd ((nI_leI (by omega) (by omega)).mpr (Nat.le_refl N)) g9
    | succ k ih =>
      intro i ls H locs hi hl hP hS
      have hD : va_D (va_A [(h0, .inr (4, [.int 0, .int 0, .int 0, .int 0, .int 0, .int 0, .int 0, .int 0, .int 0, .null, .null, .null, .null, .int 0, .int 0, .int 0]))] s.heap.size) [(h0, .inr (4, [.int (nI N), .int (nI S), .int le, .int 0, .int 0, .int 0, .int 0, .int 0, .int 0, .ref q1, .ref q2, .ref q3, .ref q4, .int (-1), .int 0, .int 0])), (q1, .inl (cA, 160, .inl (fun _ => 0))), (q2, .inl (cA, 10, .inl (fil i (nI S)))), (q3, .inl (cA, 10, .inl (fun _ => 0))), (q4, .inl (cA, 10, .inl (fun _ => 0)))] := k_D hD rfl
      refine lv_iload hx hb d_M_init_117 (lv_at hl 0 rfl) ?_
      refine lv_aload_n hx hb d_M_init_119 rfl (lv_at hl 1 rfl) ?_
      refine va_get (D := D) (ci := 4) (v := .int (nI N)) (C := R_M) (T := T_M) (N := 16) hx hb hts (in_M) hown hK hP 0 rfl rfl 0 (by decide) (hts _ m_f_M_26) (fun _ h9 => h9) rfl d_M_init_120 ?_
      refine lv_icmp_ge (tgt := 143) hx hb d_M_init_123 rfl (fun g9 => ?_) (fun g9 => ?_)
      · exact absurd ((nI_leI (a := N) (b := i) (by omega) (by omega)).mp g9) (by omega)
      · refine lv_aload_n hx hb d_M_init_126 rfl (lv_at hl 1 rfl) ?_
        refine va_get (D := D) (ci := 4) (v := .ref q2) (C := R_M) (T := T_M) (N := 16) hx hb hts (in_M) hown hK hP 0 rfl rfl 10 (by decide) (hts _ m_f_M_13) (fun _ h9 => h9) rfl d_M_init_127 ?_
        refine lv_iload hx hb d_M_init_130 (lv_at hl 0 rfl) ?_
        refine lv_aload_n hx hb d_M_init_132 rfl (lv_at hl 1 rfl) ?_
        refine va_get (D := D) (ci := 4) (v := .int (nI S)) (C := R_M) (T := T_M) (N := 16) hx hb hts (in_M) hown hK hP 0 rfl rfl 1 (by decide) (hts _ m_f_M_29) (fun _ h9 => h9) rfl d_M_init_133 ?_
        refine va_iast (n := 10) (f := fil i (nI S)) hx hb hK hP hD hS 2 0 rfl rfl (vp_in_nI (by omega) (by omega)) d_M_init_136 (fun H locs hP hD hS => ?_)
        rw [show (nI i).toNatClampNeg = i from nI_clamp (by omega), fil_s] at hP hD
        have hP : va_P D vwCl [(h0, .inr (4, [.int (nI N), .int (nI S), .int le, .int 0, .int 0, .int 0, .int 0, .int 0, .int 0, .ref q1, .ref q2, .ref q3, .ref q4, .int (-1), .int 0, .int 0])), (q1, .inl (cA, 160, .inl (fun _ => 0))), (q2, .inl (cA, 10, .inl (fil (i + 1) (nI S)))), (q3, .inl (cA, 10, .inl (fun _ => 0))), (q4, .inl (cA, 10, .inl (fun _ => 0)))] H := hP
        have hD : va_D (va_A [(h0, .inr (4, [.int 0, .int 0, .int 0, .int 0, .int 0, .int 0, .int 0, .int 0, .int 0, .null, .null, .null, .null, .int 0, .int 0, .int 0]))] s.heap.size) [(h0, .inr (4, [.int (nI N), .int (nI S), .int le, .int 0, .int 0, .int 0, .int 0, .int 0, .int 0, .ref q1, .ref q2, .ref q3, .ref q4, .int (-1), .int 0, .int 0])), (q1, .inl (cA, 160, .inl (fun _ => 0))), (q2, .inl (cA, 10, .inl (fil (i + 1) (nI S)))), (q3, .inl (cA, 10, .inl (fun _ => 0))), (q4, .inl (cA, 10, .inl (fun _ => 0)))] := hD
        refine lv_iinc (k := 0) (v := nI (i + 1)) (lv' := [(4, .int (nI (i + 1))), (0, .ref h0), (1, .int a), (2, .int b), (3, .int g)]) hx hb d_M_init_137 hl rfl (nI_add i 1) (by decide) rfl (fun ls hl => ?_)
        refine lv_goto hx hb d_M_init_140 rfl ?_
        exact ih (i + 1) ls H locs (by omega) hl hP hS
  exact L117 N 0 ls H locs (by omega) hl (by rw [fil_0]; exact hP) hS
