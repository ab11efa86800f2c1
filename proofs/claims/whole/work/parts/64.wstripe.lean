/-! rows for the reference's writeStripe: its loop over variables -/
section W2Rows
variable {N b f e k : Nat} {v : Int32} {r zc : RS} {Vv V E V1 E1 X : Fn} {p q p1 q1 : Int32}
theorem tE_ez : tE (tV zc X) (rE zc) = tV zc X := rfl
theorem rwL_st (h : rwL f v V E p q k = (V1, E1, p1, q1)) : rwL f v V E p q (k + 1) = (upd V1 (f + k) (v + nI k), upd E1 (f + k) (v + nI k), p1 ^^^ (V1 (f + k) ^^^ (v + nI k)), q1 ^^^ tmL (V1 (f + k) ^^^ (v + nI k)) (f + k) 4) := by
  rw [rwL_s, h]
theorem rW1_tv (h : cntA (rP r) (nI b) N = N ∧ e - f + 2 < N - 2 - (e - f)) (hzc : zc = tRc r (rRc r + nI (rRcW N b f e r))) (hV : Vv = rVal N b (rW r) (rP r) (rV r)) (hw : rwL f v Vv (rE r) (Vv 8) (Vv 9) (e - f) = (V1, E1, p1, q1)) : rW1 N b f e v r = tE (tV zc V1) (upd (upd E1 8 p1) 9 q1) := by
  subst hzc; subst hV
  rw [rW1_t h, hw]
theorem rW1_fv (h : ¬ (cntA (rP r) (nI b) N = N ∧ e - f + 2 < N - 2 - (e - f))) (hzc : zc = tRc r (rRc r + nI (rRcW N b f e r))) (hV : Vv = rVal N b (rW r) (rP r) (rV r)) (hw : rwL f v Vv (rE r) (Vv 8) (Vv 9) (e - f) = (V1, E1, p1, q1)) : rW1 N b f e v r = tE (tV zc V1) (upd (upd E1 8 (fgL V1 0 (N - 2))) 9 (wsR V1 (N - 2))) := by
  subst hzc; subst hV
  rw [rW1_f h, hw]
end W2Rows
section WPRows
variable {D : va_G} {cA : ClassId} {q : Nat → Nat} {N S : Nat} {z : RS} {H : Heap} {x : Int32}
theorem wM_tRc (h : va_P D vwCl ((wM cA q N S z).set 0 (q 0, .inr (4, ([.int (nI N), .int (nI S), .int (rLe z), .int (rDn z), .int (rAr z), .int (rUn z), .int (rMd z), .int (rRc z), .int (rWc z), .ref (q 1), .ref (q 2), .ref (q 3), .ref (q 4), .int (rLs z), .int (rLf z), .int (rLt z)] : List Value).set 7 (.int x)))) H) : va_P D vwCl (wM cA q N S (tRc z x)) H := h
theorem wM_tLs (h : va_P D vwCl ((wM cA q N S z).set 0 (q 0, .inr (4, ([.int (nI N), .int (nI S), .int (rLe z), .int (rDn z), .int (rAr z), .int (rUn z), .int (rMd z), .int (rRc z), .int (rWc z), .ref (q 1), .ref (q 2), .ref (q 3), .ref (q 4), .int (rLs z), .int (rLf z), .int (rLt z)] : List Value).set 13 (.int x)))) H) : va_P D vwCl (wM cA q N S (tLs z x)) H := h
theorem wM_tLf (h : va_P D vwCl ((wM cA q N S z).set 0 (q 0, .inr (4, ([.int (nI N), .int (nI S), .int (rLe z), .int (rDn z), .int (rAr z), .int (rUn z), .int (rMd z), .int (rRc z), .int (rWc z), .ref (q 1), .ref (q 2), .ref (q 3), .ref (q 4), .int (rLs z), .int (rLf z), .int (rLt z)] : List Value).set 14 (.int x)))) H) : va_P D vwCl (wM cA q N S (tLf z x)) H := h
theorem wM_tLt (h : va_P D vwCl ((wM cA q N S z).set 0 (q 0, .inr (4, ([.int (nI N), .int (nI S), .int (rLe z), .int (rDn z), .int (rAr z), .int (rUn z), .int (rMd z), .int (rRc z), .int (rWc z), .ref (q 1), .ref (q 2), .ref (q 3), .ref (q 4), .int (rLs z), .int (rLf z), .int (rLt z)] : List Value).set 15 (.int x)))) H) : va_P D vwCl (wM cA q N S (tLt z x)) H := h
end WPRows
section W3Rows
variable {N b f e : Nat} {v : Int32} {r zi : RS}
theorem rWS_f (h : rActs (e - f + 3) (rW1 N b f e v r) = (true, zi)) : rWS N b f e v r = rAp N b f e (tLt (tLf (tLs zi (nI b)) (nI f)) (nI e)) := by
  unfold rWS
  rw [h]
  exact if_neg (fun h => by cases h)
theorem rWS_f1 (h : rActs (e - f + 3) (rW1 N b f e v r) = (true, zi)) : (rAp N b f e (tLt (tLf (tLs zi (nI b)) (nI f)) (nI e))).1 = (rWS N b f e v r).1 := by rw [rWS_f h]
theorem rWS_f2 (h : rActs (e - f + 3) (rW1 N b f e v r) = (true, zi)) {u : RS} (hu : u = (rAp N b f e (tLt (tLf (tLs zi (nI b)) (nI f)) (nI e))).2) : (rWS N b f e v r).2 = u := by rw [rWS_f h, hu]
theorem rWS_t (h : rActs (e - f + 3) (rW1 N b f e v r) = (false, zi)) : rWS N b f e v r = (false, zi) := by
  unfold rWS
  rw [h]
  exact if_pos rfl
theorem rWS_t1 (h : rActs (e - f + 3) (rW1 N b f e v r) = (false, zi)) : (0 : Int32) = bi (rWS N b f e v r).1 := by rw [rWS_t h]; rfl
theorem rWS_t2 (h : rActs (e - f + 3) (rW1 N b f e v r) = (false, zi)) {u : RS} (hu : u = zi) : (rWS N b f e v r).2 = u := by rw [rWS_t h, hu]
end W3Rows
set_option maxHeartbeats 4000000 in
set_option maxRecDepth 100000 in
theorem c_Model_writeStripe (l : Launch) (D : va_G) (cA : ClassId) (q : Nat → Nat) (N S : Nat) (z : RS) (gN4 : 4 ≤ N) (gN : N ≤ 10) (gS1 : 1 ≤ S) (gS : S ≤ 16) (b f e1 : Nat) (v : Int32) (hb1 : b < S) (hfe : f ≤ e1) (he1 : e1 ≤ N - 2) : Met l y_M_writeStripe w_M_writeStripe ({ frames := 4, cells := 0, slots := 0, locals := 96 }) (va_Pc [.ref (q 0), .int (nI b), .int (nI f), .int (nI e1), .int v] (k_Wc D [(cA, .int)] (wM cA q N S z))) (va_Qi (fun (r : Int32) (_ : Unit) => r = bi ((rWS N b f e1 v z).1)) (fun _ t => va_P D vwCl (wM cA q N S ((rWS N b f e1 v z).2)) t.heap) (k_A (wM cA q N S z))) 0 0 (k_A (wM cA q N S z)) := by
  refine Met.ofW (cc := b_M_writeStripe) (maxL := 13) (ret := (some .boolean)) (by decide) rfl ?_
  intro p e s m args below meth c s₁ B hml hv
  obtain ⟨rfl, hP, hK, hD0⟩ := hv
  have hx := B.exec
  have hb := B.bytes
  have hr := B.returns
  have hts0 := atoms_spec (ws := w_M_writeStripe) B.pre
  have hts : ∀ w ∈ lw_g, w.before _ s = true := fun w h => hts0 w (List.mem_cons_of_mem _ h)
  have hown : s.vm.findClass R_M = some m.cls := findClass_of_methodNamed B.named
  have hlocks := B.notSynchronized
  have hD := k_Dself hD0
  have hDD := hD
  have hS : va_S (k_A (wM cA q N S z)) s.heap s.heap [] := va_S.rf
  have hl := lv_entry ([.ref (q 0), .int (nI b), .int (nI f), .int (nI e1), .int v]) (n := 13) (Nat.le_of_ble_eq_true rfl)
  rw [lg_entry_eq]
  generalize (lg_sl ([.ref (q 0), .int (nI b), .int (nI f), .int (nI e1), .int v]) ++ List.replicate (13 - (lg_sl ([.ref (q 0), .int (nI b), .int (nI f), .int (nI e1), .int v])).length) Slot.unset).toArray = ls at hl ⊢
  have hl : lv_has ls 13 [(0, .ref (q 0)), (1, .int (nI b)), (2, .int (nI f)), (3, .int (nI e1)), (4, .int v)] := hl
  have L95 : ∀ (df : Bool) (zc : RS) (ls : Array Slot) (H : Heap) (locs : List Loc), df = decide (cntA (rP z) (nI b) N = N ∧ e1 - f + 2 < N - 2 - (e1 - f)) → zc = tRc z (rRc z + nI (rRcW N b f e1 z)) → lv_has ls 13 [(0, .ref (q 0)), (1, .int (nI b)), (2, .int (nI f)), (3, .int (nI e1)), (4, .int v), (5, .int (nI (e1 - f))), (7, .int (bi df))] → va_P D vwCl (wM cA q N S zc) H → va_S (k_A (wM cA q N S z)) s.heap H locs → W p l e (headSpec w_M_writeStripe ({ frames := 4, cells := 0, slots := 0, locals := 96 })).room s m ([.ref (q 0), .int (nI b), .int (nI f), .int (nI e1), .int v] : List Value).toArray below meth c H locs 0 0 (MQ below (va_Qi (fun (r : Int32) (_ : Unit) => r = bi ((rWS N b f e1 v z).1)) (fun _ t => va_P D vwCl (wM cA q N S ((rWS N b f e1 v z).2)) t.heap) (k_A (wM cA q N S z))) ([.ref (q 0), .int (nI b), .int (nI f), .int (nI e1), .int v] : List Value).toArray s 0 0 (k_A (wM cA q N S z))) (F0 m 95 ls []) := by
    intro df zc ls H locs hdf hzc hl hP hS
    have hD : va_D _ (wM cA q N S zc) := wM_D hDD
    refine lv_aload_n hx hb d_M_writeStripe_95 rfl (lv_at hl 0 rfl) ?_
    refine lv_iload_n hx hb d_M_writeStripe_96 rfl (lv_at hl 1 rfl) ?_
    refine k_wrv (va_runV (C := R_M) (As := [.int (nI b)]) (rest := []) ⟨hx, hb, hml, hown, hts⟩ (c_Model_values l D cA q N S zc (by omega) (by omega) (by omega) (by omega) b (by omega)) (k_cwV 1 hts m_code_M_values m_ini_M m_l_M_116 m_inst_M_values m_sel_M_values h_M_values rfl rfl ⟨Nat.le_of_ble_eq_true rfl, Nat.le_of_ble_eq_true rfl⟩) (k_pW hP hK hD [0, 1, 2, 3, 4] (by decide) rfl 0 4 rfl rfl) rfl rfl hl.1 rfl (lv_room (Nat.le_of_ble_eq_true rfl)) d_M_writeStripe_97 ⟨Nat.zero_le _, Nat.zero_le _⟩) hS hD [0, 1, 2, 3, 4] rfl (fun u H1 locs _ hk hP1 hS => ?_)
    obtain ⟨Vv, hVv⟩ : ∃ w, w = rVal N b (rW zc) (rP zc) (rV zc) := ⟨_, rfl⟩
    have hP : va_P D vwCl (wM cA q N S (tV zc Vv)) H1 := by rw [hVv]; exact hP1
    have hD : va_D (k_A (wM cA q N S z)) (wM cA q N S (tV zc Vv)) := wM_D hDD
    generalize H1 = H at hP hS ⊢
    have hVz : Vv = rVal N b (rW z) (rP z) (rV z) := by rw [hVv, hzc, rW_tRc, rP_tRc, rV_tRc]
    refine lv_aload_n hx hb d_M_writeStripe_100 rfl (lv_at hl 0 rfl) ?_
    refine va_get (D := D) (ci := 4) (v := .ref (q 3)) (C := R_M) (T := T_M) (N := 16) hx hb hts (in_M) hown hK hP 0 rfl rfl 11 (by decide) (hts _ m_f_M_16) (fun _ h9 => h9) rfl d_M_writeStripe_101 ?_
    refine lv_bipush (v := 8) hx hb d_M_writeStripe_104 (by decide) ?_
    refine va_iald (n := 10) (f := rV (tV zc Vv)) hx hb hK hP 3 0 rfl rfl (vp_in_nI (n := 8) (by omega) (by omega)) d_M_writeStripe_106 ?_
    refine k_top ((rV (tV zc Vv)) 8) (by rw [show (8 : Int32).toNatClampNeg = 8 from nI_clamp (n := 8) (by omega)]) ?_
    refine k_top (Vv 8) (by repeat (first | rw [rV_tV])) ?_
    refine lv_istore (lv' := [(8, .int (Vv 8)), (0, .ref (q 0)), (1, .int (nI b)), (2, .int (nI f)), (3, .int (nI e1)), (4, .int v), (5, .int (nI (e1 - f))), (7, .int (bi df))]) hx hb d_M_writeStripe_107 hl (by decide) rfl (fun ls hl => ?_)
    refine lv_aload_n hx hb d_M_writeStripe_109 rfl (lv_at hl 1 rfl) ?_
    refine va_get (D := D) (ci := 4) (v := .ref (q 3)) (C := R_M) (T := T_M) (N := 16) hx hb hts (in_M) hown hK hP 0 rfl rfl 11 (by decide) (hts _ m_f_M_16) (fun _ h9 => h9) rfl d_M_writeStripe_110 ?_
    refine lv_bipush (v := 9) hx hb d_M_writeStripe_113 (by decide) ?_
    refine va_iald (n := 10) (f := rV (tV zc Vv)) hx hb hK hP 3 0 rfl rfl (vp_in_nI (n := 9) (by omega) (by omega)) d_M_writeStripe_115 ?_
    refine k_top ((rV (tV zc Vv)) 9) (by rw [show (9 : Int32).toNatClampNeg = 9 from nI_clamp (n := 9) (by omega)]) ?_
    refine k_top (Vv 9) (by repeat (first | rw [rV_tV])) ?_
    refine lv_istore (lv' := [(9, .int (Vv 9)), (8, .int (Vv 8)), (0, .ref (q 0)), (1, .int (nI b)), (2, .int (nI f)), (3, .int (nI e1)), (4, .int v), (5, .int (nI (e1 - f))), (7, .int (bi df))]) hx hb d_M_writeStripe_116 hl (by decide) rfl (fun ls hl => ?_)
    refine lv_iload_n hx hb d_M_writeStripe_118 rfl (lv_at hl 4 rfl) ?_
    refine lv_istore (lv' := [(10, .int (nI f)), (9, .int (Vv 9)), (8, .int (Vv 8)), (0, .ref (q 0)), (1, .int (nI b)), (2, .int (nI f)), (3, .int (nI e1)), (4, .int v), (5, .int (nI (e1 - f))), (7, .int (bi df))]) hx hb d_M_writeStripe_119 hl (by decide) rfl (fun ls hl => ?_)
    have L121 : ∀ (k : Nat) (j : Nat) (V1 : Fn) (E1 : Fn) (p1 : Int32) (q1 : Int32) (ls : Array Slot) (H : Heap) (locs : List Loc), f + j + k = e1 → rwL f v Vv (rE z) (Vv 8) (Vv 9) j = (V1, E1, p1, q1) → lv_has ls 13 [(0, .ref (q 0)), (1, .int (nI b)), (2, .int (nI f)), (3, .int (nI e1)), (4, .int v), (5, .int (nI (e1 - f))), (7, .int (bi df)), (8, .int p1), (9, .int q1), (10, .int (nI (f + j)))] → va_P D vwCl (wM cA q N S (tE (tV zc V1) E1)) H → va_S (k_A (wM cA q N S z)) s.heap H locs → W p l e (headSpec w_M_writeStripe ({ frames := 4, cells := 0, slots := 0, locals := 96 })).room s m ([.ref (q 0), .int (nI b), .int (nI f), .int (nI e1), .int v] : List Value).toArray below meth c H locs 0 0 (MQ below (va_Qi (fun (r : Int32) (_ : Unit) => r = bi ((rWS N b f e1 v z).1)) (fun _ t => va_P D vwCl (wM cA q N S ((rWS N b f e1 v z).2)) t.heap) (k_A (wM cA q N S z))) ([.ref (q 0), .int (nI b), .int (nI f), .int (nI e1), .int v] : List Value).toArray s 0 0 (k_A (wM cA q N S z))) (F0 m 121 ls []) := by
      intro k
      induction k with
      | zero =>
        intro j V1 E1 p1 q1 ls H locs hk hw hl hP hS
        have hD : va_D _ (wM cA q N S (tE (tV zc V1) E1)) := wM_D hDD
        obtain rfl : e1 - f = j := by omega
        refine lv_iload hx hb d_M_writeStripe_121 (lv_at hl 9 rfl) ?_
        refine lv_iload_n hx hb d_M_writeStripe_123 rfl (lv_at hl 3 rfl) ?_
        refine lv_icmp_ge (tgt := 191) hx hb d_M_writeStripe_124 rfl (fun g124 => ?_) (fun g124 => ?_)
        · have h124 : e1 ≤ (f + (e1 - f)) := (nI_leI (a := e1) (b := f + (e1 - f)) (by omega) (by omega)).mp g124
          have k124 : ¬ (f + (e1 - f)) < e1 := by omega
          refine lv_aload_n hx hb d_M_writeStripe_191 rfl (lv_at hl 0 rfl) ?_
          refine va_get (D := D) (ci := 4) (v := .ref (q 4)) (C := R_M) (T := T_M) (N := 16) hx hb hts (in_M) hown hK hP 0 rfl rfl 12 (by decide) (hts _ m_f_M_19) (fun _ h9 => h9) rfl d_M_writeStripe_192 ?_
          refine lv_bipush (v := 8) hx hb d_M_writeStripe_195 (by decide) ?_
          refine lv_iload hx hb d_M_writeStripe_197 (lv_at hl 6 rfl) ?_
          refine lv_if_eq (tgt := 207) hx hb d_M_writeStripe_199 rfl (fun g199 => ?_) (fun g199 => ?_)
          · have h199 := bi_z.mp g199
            refine lv_aload_n hx hb d_M_writeStripe_207 rfl (lv_at hl 0 rfl) ?_
            refine k_roi (va_runV (C := R_M) (As := []) (rest := [.int 8, .ref (q 4)]) ⟨hx, hb, hml, hown, hts⟩ (c_Model_sum l D cA q N S (tE (tV zc V1) E1) (by omega) (by omega) (by omega) (by omega)) (k_cwV 0 hts m_code_M_sum m_ini_M m_l_M_52 m_inst_M_sum m_sel_M_sum h_M_sum rfl rfl ⟨Nat.le_of_ble_eq_true rfl, Nat.le_of_ble_eq_true rfl⟩) (k_pR hP hK [0, 1, 2, 3, 4] rfl 0 4 rfl rfl) rfl rfl hl.1 rfl (lv_room (Nat.le_of_ble_eq_true rfl)) d_M_writeStripe_208 ⟨Nat.zero_le _, Nat.zero_le _⟩) ?_
            refine k_top (fgL V1 0 (N - 2)) (by repeat (first | rw [rV_tE] | rw [rV_tV])) ?_
            refine va_iast (n := 10) (f := rE (tE (tV zc V1) E1)) hx hb hK hP hD hS 4 0 rfl rfl (vp_in_nI (n := 8) (by omega) (by omega)) d_M_writeStripe_211 (fun H locs hP hD hS => ?_)
            rw [show (8 : Int32).toNatClampNeg = 8 from nI_clamp (n := 8) (by omega)] at hP hD
            have hP : va_P D vwCl (wM cA q N S (tE (tE (tV zc V1) E1) (upd (rE (tE (tV zc V1) E1)) 8 (fgL V1 0 (N - 2))))) H := wM_tE hP
            have hD : va_D (k_A (wM cA q N S z)) (wM cA q N S (tE (tE (tV zc V1) E1) (upd (rE (tE (tV zc V1) E1)) 8 (fgL V1 0 (N - 2))))) := wM_D hDD
            have hP : va_P D vwCl (wM cA q N S (tE (tV zc V1) (upd E1 8 (fgL V1 0 (N - 2))))) H := by simp only [rE_tE, tE_tE] at hP; exact hP
            have hD : va_D (k_A (wM cA q N S z)) (wM cA q N S (tE (tV zc V1) (upd E1 8 (fgL V1 0 (N - 2))))) := wM_D hDD
            refine lv_aload_n hx hb d_M_writeStripe_212 rfl (lv_at hl 0 rfl) ?_
            refine va_get (D := D) (ci := 4) (v := .ref (q 4)) (C := R_M) (T := T_M) (N := 16) hx hb hts (in_M) hown hK hP 0 rfl rfl 12 (by decide) (hts _ m_f_M_19) (fun _ h9 => h9) rfl d_M_writeStripe_213 ?_
            refine lv_bipush (v := 9) hx hb d_M_writeStripe_216 (by decide) ?_
            refine lv_iload hx hb d_M_writeStripe_218 (lv_at hl 6 rfl) ?_
            refine lv_if_eq (tgt := 228) hx hb d_M_writeStripe_220 rfl (fun g220 => ?_) (fun g220 => ?_)
            · have h220 := bi_z.mp g220
              refine lv_aload_n hx hb d_M_writeStripe_228 rfl (lv_at hl 0 rfl) ?_
              refine k_roi (va_runV (C := R_M) (As := []) (rest := [.int 9, .ref (q 4)]) ⟨hx, hb, hml, hown, hts⟩ (c_Model_weighted l D cA q N S (tE (tV zc V1) (upd E1 8 (fgL V1 0 (N - 2)))) (by omega) (by omega) (by omega) (by omega)) (k_cwV 0 hts m_code_M_weighted m_ini_M m_l_M_56 m_inst_M_weighted m_sel_M_weighted h_M_weighted rfl rfl ⟨Nat.le_of_ble_eq_true rfl, Nat.le_of_ble_eq_true rfl⟩) (k_pR hP hK [0, 1, 2, 3, 4] rfl 0 4 rfl rfl) rfl rfl hl.1 rfl (lv_room (Nat.le_of_ble_eq_true rfl)) d_M_writeStripe_229 ⟨Nat.zero_le _, Nat.zero_le _⟩) ?_
              refine k_top (wsR V1 (N - 2)) (by repeat (first | rw [rV_tE] | rw [rV_tV])) ?_
              refine va_iast (n := 10) (f := rE (tE (tV zc V1) (upd E1 8 (fgL V1 0 (N - 2))))) hx hb hK hP hD hS 4 0 rfl rfl (vp_in_nI (n := 9) (by omega) (by omega)) d_M_writeStripe_232 (fun H locs hP hD hS => ?_)
              rw [show (9 : Int32).toNatClampNeg = 9 from nI_clamp (n := 9) (by omega)] at hP hD
              have hP : va_P D vwCl (wM cA q N S (tE (tE (tV zc V1) (upd E1 8 (fgL V1 0 (N - 2)))) (upd (rE (tE (tV zc V1) (upd E1 8 (fgL V1 0 (N - 2))))) 9 (wsR V1 (N - 2))))) H := wM_tE hP
              have hD : va_D (k_A (wM cA q N S z)) (wM cA q N S (tE (tE (tV zc V1) (upd E1 8 (fgL V1 0 (N - 2)))) (upd (rE (tE (tV zc V1) (upd E1 8 (fgL V1 0 (N - 2))))) 9 (wsR V1 (N - 2))))) := wM_D hDD
              have hP : va_P D vwCl (wM cA q N S (tE (tV zc V1) (upd (upd E1 8 (fgL V1 0 (N - 2))) 9 (wsR V1 (N - 2))))) H := by simp only [rE_tE, tE_tE] at hP; exact hP
              have hD : va_D (k_A (wM cA q N S z)) (wM cA q N S (tE (tV zc V1) (upd (upd E1 8 (fgL V1 0 (N - 2))) 9 (wsR V1 (N - 2))))) := wM_D hDD
              refine lv_iconst (v := 0) hx hb d_M_writeStripe_233 (by decide) ?_
              refine lv_istore (lv' := [(10, .int 0), (0, .ref (q 0)), (1, .int (nI b)), (2, .int (nI f)), (3, .int (nI e1)), (4, .int v), (5, .int (nI (e1 - f))), (7, .int (bi df)), (8, .int p1), (9, .int q1)]) hx hb d_M_writeStripe_234 hl (by decide) rfl (fun ls hl => ?_)
              have L236 : ∀ (k : Nat) (i : Nat) (zi : RS) (ls : Array Slot) (H : Heap) (locs : List Loc), i + k = e1 - f + 3 → rActs (e1 - f + 3) (rW1 N b f e1 v z) = rActs k zi → lv_has ls 13 [(0, .ref (q 0)), (1, .int (nI b)), (2, .int (nI f)), (3, .int (nI e1)), (4, .int v), (5, .int (nI (e1 - f))), (10, .int (nI i))] → va_P D vwCl (wM cA q N S zi) H → va_S (k_A (wM cA q N S z)) s.heap H locs → W p l e (headSpec w_M_writeStripe ({ frames := 4, cells := 0, slots := 0, locals := 96 })).room s m ([.ref (q 0), .int (nI b), .int (nI f), .int (nI e1), .int v] : List Value).toArray below meth c H locs 0 0 (MQ below (va_Qi (fun (r : Int32) (_ : Unit) => r = bi ((rWS N b f e1 v z).1)) (fun _ t => va_P D vwCl (wM cA q N S ((rWS N b f e1 v z).2)) t.heap) (k_A (wM cA q N S z))) ([.ref (q 0), .int (nI b), .int (nI f), .int (nI e1), .int v] : List Value).toArray s 0 0 (k_A (wM cA q N S z))) (F0 m 236 ls []) := by
                intro k
                induction k with
                | zero =>
                  intro i zi ls H locs hk hr0 hl hP hS
                  have hD : va_D _ (wM cA q N S zi) := wM_D hDD
                  have hr1 : rActs (e1 - f + 3) (rW1 N b f e1 v z) = (true, zi) := hr0
                  refine lv_iload hx hb d_M_writeStripe_236 (lv_at hl 6 rfl) ?_
                  refine lv_iload hx hb d_M_writeStripe_238 (lv_at hl 5 rfl) ?_
                  refine lv_iconst (v := 3) hx hb d_M_writeStripe_240 (by decide) ?_
                  refine lv_iadd hx hb d_M_writeStripe_241 ?_
                  refine k_top (nI (e1 - f + 3)) (nI_add (e1 - f) 3) ?_
                  refine lv_icmp_ge (tgt := 260) hx hb d_M_writeStripe_242 rfl (fun g242 => ?_) (fun g242 => ?_)
                  · have h242 : (e1 - f + 3) ≤ i := (nI_leI (a := e1 - f + 3) (b := i) (by omega) (by omega)).mp g242
                    have k242 : ¬ i < (e1 - f + 3) := by omega
                    refine lv_aload_n hx hb d_M_writeStripe_260 rfl (lv_at hl 0 rfl) ?_
                    refine lv_iload_n hx hb d_M_writeStripe_261 rfl (lv_at hl 1 rfl) ?_
                    refine va_put (D := D) (ci := 4) (v := .int (nI b)) (ty := .int) (C := R_M) (T := T_M) (N := 16) hx hb hts (in_M) ty_M tyok_M nm_M hown hK hP hD hS 0 rfl rfl 13 (by decide) (hts _ m_f_M_22) (fun _ h9 => h9) rfl (by decide +kernel) rfl rfl (Nat.le_of_ble_eq_true rfl) d_M_writeStripe_262 (fun H locs hP hD hS => ?_)
                    have hP : va_P D vwCl (wM cA q N S (tLs zi (nI b))) H := wM_tLs hP
                    have hD : va_D (k_A (wM cA q N S z)) (wM cA q N S (tLs zi (nI b))) := wM_D hDD
                    refine lv_aload_n hx hb d_M_writeStripe_265 rfl (lv_at hl 0 rfl) ?_
                    refine lv_iload_n hx hb d_M_writeStripe_266 rfl (lv_at hl 2 rfl) ?_
                    refine va_put (D := D) (ci := 4) (v := .int (nI f)) (ty := .int) (C := R_M) (T := T_M) (N := 16) hx hb hts (in_M) ty_M tyok_M nm_M hown hK hP hD hS 0 rfl rfl 14 (by decide) (hts _ m_f_M_86) (fun _ h9 => h9) rfl (by decide +kernel) rfl rfl (Nat.le_of_ble_eq_true rfl) d_M_writeStripe_267 (fun H locs hP hD hS => ?_)
                    have hP : va_P D vwCl (wM cA q N S (tLf (tLs zi (nI b)) (nI f))) H := wM_tLf hP
                    have hD : va_D (k_A (wM cA q N S z)) (wM cA q N S (tLf (tLs zi (nI b)) (nI f))) := wM_D hDD
                    refine lv_aload_n hx hb d_M_writeStripe_270 rfl (lv_at hl 0 rfl) ?_
                    refine lv_iload_n hx hb d_M_writeStripe_271 rfl (lv_at hl 3 rfl) ?_
                    refine va_put (D := D) (ci := 4) (v := .int (nI e1)) (ty := .int) (C := R_M) (T := T_M) (N := 16) hx hb hts (in_M) ty_M tyok_M nm_M hown hK hP hD hS 0 rfl rfl 15 (by decide) (hts _ m_f_M_89) (fun _ h9 => h9) rfl (by decide +kernel) rfl rfl (Nat.le_of_ble_eq_true rfl) d_M_writeStripe_272 (fun H locs hP hD hS => ?_)
                    have hP : va_P D vwCl (wM cA q N S (tLt (tLf (tLs zi (nI b)) (nI f)) (nI e1))) H := wM_tLt hP
                    have hD : va_D (k_A (wM cA q N S z)) (wM cA q N S (tLt (tLf (tLs zi (nI b)) (nI f)) (nI e1))) := wM_D hDD
                    refine lv_aload_n hx hb d_M_writeStripe_275 rfl (lv_at hl 0 rfl) ?_
                    refine k_wri (va_runV (C := R_M) (As := []) (rest := []) ⟨hx, hb, hml, hown, hts⟩ (c_Model_apply l D cA q N S (tLt (tLf (tLs zi (nI b)) (nI f)) (nI e1)) (by omega) (by omega) (by omega) (by omega) b f e1 (by omega) (by omega) (by omega) (by rfl) (by rfl) (by rfl)) (k_cwV 0 hts m_code_M_apply m_ini_M m_l_M_130 m_inst_M_apply m_sel_M_apply h_M_apply rfl rfl ⟨Nat.le_of_ble_eq_true rfl, Nat.le_of_ble_eq_true rfl⟩) (k_pW hP hK hD [0, 1, 2, 3, 4] (by decide) rfl 0 4 rfl rfl) rfl rfl hl.1 rfl (lv_room (Nat.le_of_ble_eq_true rfl)) d_M_writeStripe_276 ⟨Nat.zero_le _, Nat.zero_le _⟩) hS hD [0, 1, 2, 3, 4] rfl (fun r u H1 locs hp hk hP1 hS => ?_)
                    subst hp
                    obtain ⟨u1, hu1⟩ : ∃ w, w = (rAp N b f e1 (tLt (tLf (tLs zi (nI b)) (nI f)) (nI e1))).2 := ⟨_, rfl⟩
                    have hP : va_P D vwCl (wM cA q N S u1) H1 := by rw [hu1]; exact hP1
                    have hD : va_D (k_A (wM cA q N S z)) (wM cA q N S u1) := wM_D hDD
                    generalize H1 = H at hP hS ⊢
                    have e2 : (rWS N b f e1 v z).2 = u1 := by exact rWS_f2 hr1 (by assumption)
                    exact W.zret (v := bi ((rAp N b f e1 (tLt (tLf (tLs zi (nI b)) (nI f)) (nI e1))).1)) (ty := .boolean) hx hb hr (bi_n _) (fun t ht hW => ⟨⟨_, (), rfl, by exact congrArg bi (rWS_f1 hr1), by show va_P D vwCl (wM cA q N S ((rWS N b f e1 v z).2)) t.heap; rw [ht, e2]; exact hP⟩, hS.F ht⟩) hS.2.2 d_M_writeStripe_279
                  · have h242 : ¬ (e1 - f + 3) ≤ i := fun q9 => g242 ((nI_leI (a := e1 - f + 3) (b := i) (by omega) (by omega)).mpr q9)
                    have k242 : i < (e1 - f + 3) := by omega
                    exfalso; omega
                | succ k ih =>
                  intro i zi ls H locs hk hr0 hl hP hS
                  have hD : va_D _ (wM cA q N S zi) := wM_D hDD
                  refine lv_iload hx hb d_M_writeStripe_236 (lv_at hl 6 rfl) ?_
                  refine lv_iload hx hb d_M_writeStripe_238 (lv_at hl 5 rfl) ?_
                  refine lv_iconst (v := 3) hx hb d_M_writeStripe_240 (by decide) ?_
                  refine lv_iadd hx hb d_M_writeStripe_241 ?_
                  refine k_top (nI (e1 - f + 3)) (nI_add (e1 - f) 3) ?_
                  refine lv_icmp_ge (tgt := 260) hx hb d_M_writeStripe_242 rfl (fun g242 => ?_) (fun g242 => ?_)
                  · have h242 : (e1 - f + 3) ≤ i := (nI_leI (a := e1 - f + 3) (b := i) (by omega) (by omega)).mp g242
                    have k242 : ¬ i < (e1 - f + 3) := by omega
                    exfalso; omega
                  · have h242 : ¬ (e1 - f + 3) ≤ i := fun q9 => g242 ((nI_leI (a := e1 - f + 3) (b := i) (by omega) (by omega)).mpr q9)
                    have k242 : i < (e1 - f + 3) := by omega
                    refine lv_aload_n hx hb d_M_writeStripe_245 rfl (lv_at hl 0 rfl) ?_
                    refine k_wri (va_runV (C := R_M) (As := []) (rest := []) ⟨hx, hb, hml, hown, hts⟩ (c_Model_act l D cA q N S zi (by omega) (by omega) (by omega) (by omega)) (k_cwV 0 hts m_code_M_act m_ini_M m_l_M_79 m_inst_M_act m_sel_M_act h_M_act rfl rfl ⟨Nat.le_of_ble_eq_true rfl, Nat.le_of_ble_eq_true rfl⟩) (k_pW hP hK hD [0, 1, 2, 3, 4] (by decide) rfl 0 4 rfl rfl) rfl rfl hl.1 rfl (lv_room (Nat.le_of_ble_eq_true rfl)) d_M_writeStripe_246 ⟨Nat.zero_le _, Nat.zero_le _⟩) hS hD [0, 1, 2, 3, 4] rfl (fun r u H1 locs hp hk hP1 hS => ?_)
                    subst hp
                    obtain ⟨u3, hu3⟩ : ∃ w, w = (rAct zi).2 := ⟨_, rfl⟩
                    have hP : va_P D vwCl (wM cA q N S u3) H1 := by rw [hu3]; exact hP1
                    have hD : va_D (k_A (wM cA q N S z)) (wM cA q N S u3) := wM_D hDD
                    generalize H1 = H at hP hS ⊢
                    refine lv_if_ne (tgt := 254) hx hb d_M_writeStripe_249 rfl (fun g249 => ?_) (fun g249 => ?_)
                    · have h249 := bi_nz.mp g249
                      refine lv_iinc (k := 6) (v := nI (i + 1)) (lv' := [(10, .int (nI (i + 1))), (0, .ref (q 0)), (1, .int (nI b)), (2, .int (nI f)), (3, .int (nI e1)), (4, .int v), (5, .int (nI (e1 - f)))]) hx hb d_M_writeStripe_254 hl rfl (nI_add i 1) (by decide) rfl (fun ls hl => ?_)
                      refine lv_goto hx hb d_M_writeStripe_257 rfl ?_
                      exact ih (i + 1) u3 ls H locs (by omega) (by first | (rw [hu3]; exact hr0.trans (rActs_f h249)) | exact congrArg (rActs (e1 - f + 3)) (rW1_tv (of_decide_eq_true (hdf.symm.trans h199)) hzc hVz hw) | exact congrArg (rActs (e1 - f + 3)) (rW1_fv (of_decide_eq_false (hdf.symm.trans h199)) hzc hVz hw)) (lv_sub hl [1, 2, 3, 4, 5, 6, 0] rfl) hP hS
                    · have h249 := bi_z.mp g249
                      have hr1 := hr0.trans (rActs_t h249)
                      refine lv_iconst (v := 0) hx hb d_M_writeStripe_252 (by decide) ?_
                      have e4 : (rWS N b f e1 v z).2 = u3 := by exact rWS_t2 hr1 (by assumption)
                      exact W.zret (v := 0) (ty := .boolean) hx hb hr (rfl) (fun t ht hW => ⟨⟨_, (), rfl, by exact rWS_t1 hr1, by show va_P D vwCl (wM cA q N S ((rWS N b f e1 v z).2)) t.heap; rw [ht, e4]; exact hP⟩, hS.F ht⟩) hS.2.2 d_M_writeStripe_253
              have e5 : nI 0 = 0 := by rfl
              exact L236 (e1 - f + 3) 0 (tE (tV zc V1) (upd (upd E1 8 (fgL V1 0 (N - 2))) 9 (wsR V1 (N - 2)))) ls H locs (by omega) (by first | (rw [hVv]; exact hr0.trans (rActs_f h249)) | exact congrArg (rActs (e1 - f + 3)) (rW1_tv (of_decide_eq_true (hdf.symm.trans h199)) hzc hVz hw) | exact congrArg (rActs (e1 - f + 3)) (rW1_fv (of_decide_eq_false (hdf.symm.trans h199)) hzc hVz hw)) (by rw [e5]; exact lv_sub hl [1, 2, 3, 4, 5, 6, 0] rfl) hP hS
            · have h220 := bi_nz.mp g220
              exact absurd (h220.symm.trans h199) (by decide)
          · have h199 := bi_nz.mp g199
            refine lv_iload hx hb d_M_writeStripe_202 (lv_at hl 7 rfl) ?_
            refine lv_goto hx hb d_M_writeStripe_204 rfl ?_
            refine va_iast (n := 10) (f := rE (tE (tV zc V1) E1)) hx hb hK hP hD hS 4 0 rfl rfl (vp_in_nI (n := 8) (by omega) (by omega)) d_M_writeStripe_211 (fun H locs hP hD hS => ?_)
            rw [show (8 : Int32).toNatClampNeg = 8 from nI_clamp (n := 8) (by omega)] at hP hD
            have hP : va_P D vwCl (wM cA q N S (tE (tE (tV zc V1) E1) (upd (rE (tE (tV zc V1) E1)) 8 p1))) H := wM_tE hP
            have hD : va_D (k_A (wM cA q N S z)) (wM cA q N S (tE (tE (tV zc V1) E1) (upd (rE (tE (tV zc V1) E1)) 8 p1))) := wM_D hDD
            have hP : va_P D vwCl (wM cA q N S (tE (tV zc V1) (upd E1 8 p1))) H := by simp only [rE_tE, tE_tE] at hP; exact hP
            have hD : va_D (k_A (wM cA q N S z)) (wM cA q N S (tE (tV zc V1) (upd E1 8 p1))) := wM_D hDD
            refine lv_aload_n hx hb d_M_writeStripe_212 rfl (lv_at hl 0 rfl) ?_
            refine va_get (D := D) (ci := 4) (v := .ref (q 4)) (C := R_M) (T := T_M) (N := 16) hx hb hts (in_M) hown hK hP 0 rfl rfl 12 (by decide) (hts _ m_f_M_19) (fun _ h9 => h9) rfl d_M_writeStripe_213 ?_
            refine lv_bipush (v := 9) hx hb d_M_writeStripe_216 (by decide) ?_
            refine lv_iload hx hb d_M_writeStripe_218 (lv_at hl 6 rfl) ?_
            refine lv_if_eq (tgt := 228) hx hb d_M_writeStripe_220 rfl (fun g220 => ?_) (fun g220 => ?_)
            · have h220 := bi_z.mp g220
              exact absurd (h220.symm.trans h199) (by decide)
            · have h220 := bi_nz.mp g220
              refine lv_iload hx hb d_M_writeStripe_223 (lv_at hl 8 rfl) ?_
              refine lv_goto hx hb d_M_writeStripe_225 rfl ?_
              refine va_iast (n := 10) (f := rE (tE (tV zc V1) (upd E1 8 p1))) hx hb hK hP hD hS 4 0 rfl rfl (vp_in_nI (n := 9) (by omega) (by omega)) d_M_writeStripe_232 (fun H locs hP hD hS => ?_)
              rw [show (9 : Int32).toNatClampNeg = 9 from nI_clamp (n := 9) (by omega)] at hP hD
              have hP : va_P D vwCl (wM cA q N S (tE (tE (tV zc V1) (upd E1 8 p1)) (upd (rE (tE (tV zc V1) (upd E1 8 p1))) 9 q1))) H := wM_tE hP
              have hD : va_D (k_A (wM cA q N S z)) (wM cA q N S (tE (tE (tV zc V1) (upd E1 8 p1)) (upd (rE (tE (tV zc V1) (upd E1 8 p1))) 9 q1))) := wM_D hDD
              have hP : va_P D vwCl (wM cA q N S (tE (tV zc V1) (upd (upd E1 8 p1) 9 q1))) H := by simp only [rE_tE, tE_tE] at hP; exact hP
              have hD : va_D (k_A (wM cA q N S z)) (wM cA q N S (tE (tV zc V1) (upd (upd E1 8 p1) 9 q1))) := wM_D hDD
              refine lv_iconst (v := 0) hx hb d_M_writeStripe_233 (by decide) ?_
              refine lv_istore (lv' := [(10, .int 0), (0, .ref (q 0)), (1, .int (nI b)), (2, .int (nI f)), (3, .int (nI e1)), (4, .int v), (5, .int (nI (e1 - f))), (7, .int (bi df)), (8, .int p1), (9, .int q1)]) hx hb d_M_writeStripe_234 hl (by decide) rfl (fun ls hl => ?_)
              have L236 : ∀ (k : Nat) (i : Nat) (zi : RS) (ls : Array Slot) (H : Heap) (locs : List Loc), i + k = e1 - f + 3 → rActs (e1 - f + 3) (rW1 N b f e1 v z) = rActs k zi → lv_has ls 13 [(0, .ref (q 0)), (1, .int (nI b)), (2, .int (nI f)), (3, .int (nI e1)), (4, .int v), (5, .int (nI (e1 - f))), (10, .int (nI i))] → va_P D vwCl (wM cA q N S zi) H → va_S (k_A (wM cA q N S z)) s.heap H locs → W p l e (headSpec w_M_writeStripe ({ frames := 4, cells := 0, slots := 0, locals := 96 })).room s m ([.ref (q 0), .int (nI b), .int (nI f), .int (nI e1), .int v] : List Value).toArray below meth c H locs 0 0 (MQ below (va_Qi (fun (r : Int32) (_ : Unit) => r = bi ((rWS N b f e1 v z).1)) (fun _ t => va_P D vwCl (wM cA q N S ((rWS N b f e1 v z).2)) t.heap) (k_A (wM cA q N S z))) ([.ref (q 0), .int (nI b), .int (nI f), .int (nI e1), .int v] : List Value).toArray s 0 0 (k_A (wM cA q N S z))) (F0 m 236 ls []) := by
                intro k
                induction k with
                | zero =>
                  intro i zi ls H locs hk hr0 hl hP hS
                  have hD : va_D _ (wM cA q N S zi) := wM_D hDD
                  have hr1 : rActs (e1 - f + 3) (rW1 N b f e1 v z) = (true, zi) := hr0
                  refine lv_iload hx hb d_M_writeStripe_236 (lv_at hl 6 rfl) ?_
                  refine lv_iload hx hb d_M_writeStripe_238 (lv_at hl 5 rfl) ?_
                  refine lv_iconst (v := 3) hx hb d_M_writeStripe_240 (by decide) ?_
                  refine lv_iadd hx hb d_M_writeStripe_241 ?_
                  refine k_top (nI (e1 - f + 3)) (nI_add (e1 - f) 3) ?_
                  refine lv_icmp_ge (tgt := 260) hx hb d_M_writeStripe_242 rfl (fun g242 => ?_) (fun g242 => ?_)
                  · have h242 : (e1 - f + 3) ≤ i := (nI_leI (a := e1 - f + 3) (b := i) (by omega) (by omega)).mp g242
                    have k242 : ¬ i < (e1 - f + 3) := by omega
                    refine lv_aload_n hx hb d_M_writeStripe_260 rfl (lv_at hl 0 rfl) ?_
                    refine lv_iload_n hx hb d_M_writeStripe_261 rfl (lv_at hl 1 rfl) ?_
                    refine va_put (D := D) (ci := 4) (v := .int (nI b)) (ty := .int) (C := R_M) (T := T_M) (N := 16) hx hb hts (in_M) ty_M tyok_M nm_M hown hK hP hD hS 0 rfl rfl 13 (by decide) (hts _ m_f_M_22) (fun _ h9 => h9) rfl (by decide +kernel) rfl rfl (Nat.le_of_ble_eq_true rfl) d_M_writeStripe_262 (fun H locs hP hD hS => ?_)
                    have hP : va_P D vwCl (wM cA q N S (tLs zi (nI b))) H := wM_tLs hP
                    have hD : va_D (k_A (wM cA q N S z)) (wM cA q N S (tLs zi (nI b))) := wM_D hDD
                    refine lv_aload_n hx hb d_M_writeStripe_265 rfl (lv_at hl 0 rfl) ?_
                    refine lv_iload_n hx hb d_M_writeStripe_266 rfl (lv_at hl 2 rfl) ?_
                    refine va_put (D := D) (ci := 4) (v := .int (nI f)) (ty := .int) (C := R_M) (T := T_M) (N := 16) hx hb hts (in_M) ty_M tyok_M nm_M hown hK hP hD hS 0 rfl rfl 14 (by decide) (hts _ m_f_M_86) (fun _ h9 => h9) rfl (by decide +kernel) rfl rfl (Nat.le_of_ble_eq_true rfl) d_M_writeStripe_267 (fun H locs hP hD hS => ?_)
                    have hP : va_P D vwCl (wM cA q N S (tLf (tLs zi (nI b)) (nI f))) H := wM_tLf hP
                    have hD : va_D (k_A (wM cA q N S z)) (wM cA q N S (tLf (tLs zi (nI b)) (nI f))) := wM_D hDD
                    refine lv_aload_n hx hb d_M_writeStripe_270 rfl (lv_at hl 0 rfl) ?_
                    refine lv_iload_n hx hb d_M_writeStripe_271 rfl (lv_at hl 3 rfl) ?_
                    refine va_put (D := D) (ci := 4) (v := .int (nI e1)) (ty := .int) (C := R_M) (T := T_M) (N := 16) hx hb hts (in_M) ty_M tyok_M nm_M hown hK hP hD hS 0 rfl rfl 15 (by decide) (hts _ m_f_M_89) (fun _ h9 => h9) rfl (by decide +kernel) rfl rfl (Nat.le_of_ble_eq_true rfl) d_M_writeStripe_272 (fun H locs hP hD hS => ?_)
                    have hP : va_P D vwCl (wM cA q N S (tLt (tLf (tLs zi (nI b)) (nI f)) (nI e1))) H := wM_tLt hP
                    have hD : va_D (k_A (wM cA q N S z)) (wM cA q N S (tLt (tLf (tLs zi (nI b)) (nI f)) (nI e1))) := wM_D hDD
                    refine lv_aload_n hx hb d_M_writeStripe_275 rfl (lv_at hl 0 rfl) ?_
                    refine k_wri (va_runV (C := R_M) (As := []) (rest := []) ⟨hx, hb, hml, hown, hts⟩ (c_Model_apply l D cA q N S (tLt (tLf (tLs zi (nI b)) (nI f)) (nI e1)) (by omega) (by omega) (by omega) (by omega) b f e1 (by omega) (by omega) (by omega) (by rfl) (by rfl) (by rfl)) (k_cwV 0 hts m_code_M_apply m_ini_M m_l_M_130 m_inst_M_apply m_sel_M_apply h_M_apply rfl rfl ⟨Nat.le_of_ble_eq_true rfl, Nat.le_of_ble_eq_true rfl⟩) (k_pW hP hK hD [0, 1, 2, 3, 4] (by decide) rfl 0 4 rfl rfl) rfl rfl hl.1 rfl (lv_room (Nat.le_of_ble_eq_true rfl)) d_M_writeStripe_276 ⟨Nat.zero_le _, Nat.zero_le _⟩) hS hD [0, 1, 2, 3, 4] rfl (fun r u H1 locs hp hk hP1 hS => ?_)
                    subst hp
                    obtain ⟨u6, hu6⟩ : ∃ w, w = (rAp N b f e1 (tLt (tLf (tLs zi (nI b)) (nI f)) (nI e1))).2 := ⟨_, rfl⟩
                    have hP : va_P D vwCl (wM cA q N S u6) H1 := by rw [hu6]; exact hP1
                    have hD : va_D (k_A (wM cA q N S z)) (wM cA q N S u6) := wM_D hDD
                    generalize H1 = H at hP hS ⊢
                    have e7 : (rWS N b f e1 v z).2 = u6 := by exact rWS_f2 hr1 (by assumption)
                    exact W.zret (v := bi ((rAp N b f e1 (tLt (tLf (tLs zi (nI b)) (nI f)) (nI e1))).1)) (ty := .boolean) hx hb hr (bi_n _) (fun t ht hW => ⟨⟨_, (), rfl, by exact congrArg bi (rWS_f1 hr1), by show va_P D vwCl (wM cA q N S ((rWS N b f e1 v z).2)) t.heap; rw [ht, e7]; exact hP⟩, hS.F ht⟩) hS.2.2 d_M_writeStripe_279
                  · have h242 : ¬ (e1 - f + 3) ≤ i := fun q9 => g242 ((nI_leI (a := e1 - f + 3) (b := i) (by omega) (by omega)).mpr q9)
                    have k242 : i < (e1 - f + 3) := by omega
                    exfalso; omega
                | succ k ih =>
                  intro i zi ls H locs hk hr0 hl hP hS
                  have hD : va_D _ (wM cA q N S zi) := wM_D hDD
                  refine lv_iload hx hb d_M_writeStripe_236 (lv_at hl 6 rfl) ?_
                  refine lv_iload hx hb d_M_writeStripe_238 (lv_at hl 5 rfl) ?_
                  refine lv_iconst (v := 3) hx hb d_M_writeStripe_240 (by decide) ?_
                  refine lv_iadd hx hb d_M_writeStripe_241 ?_
                  refine k_top (nI (e1 - f + 3)) (nI_add (e1 - f) 3) ?_
                  refine lv_icmp_ge (tgt := 260) hx hb d_M_writeStripe_242 rfl (fun g242 => ?_) (fun g242 => ?_)
                  · have h242 : (e1 - f + 3) ≤ i := (nI_leI (a := e1 - f + 3) (b := i) (by omega) (by omega)).mp g242
                    have k242 : ¬ i < (e1 - f + 3) := by omega
                    exfalso; omega
                  · have h242 : ¬ (e1 - f + 3) ≤ i := fun q9 => g242 ((nI_leI (a := e1 - f + 3) (b := i) (by omega) (by omega)).mpr q9)
                    have k242 : i < (e1 - f + 3) := by omega
                    refine lv_aload_n hx hb d_M_writeStripe_245 rfl (lv_at hl 0 rfl) ?_
                    refine k_wri (va_runV (C := R_M) (As := []) (rest := []) ⟨hx, hb, hml, hown, hts⟩ (c_Model_act l D cA q N S zi (by omega) (by omega) (by omega) (by omega)) (k_cwV 0 hts m_code_M_act m_ini_M m_l_M_79 m_inst_M_act m_sel_M_act h_M_act rfl rfl ⟨Nat.le_of_ble_eq_true rfl, Nat.le_of_ble_eq_true rfl⟩) (k_pW hP hK hD [0, 1, 2, 3, 4] (by decide) rfl 0 4 rfl rfl) rfl rfl hl.1 rfl (lv_room (Nat.le_of_ble_eq_true rfl)) d_M_writeStripe_246 ⟨Nat.zero_le _, Nat.zero_le _⟩) hS hD [0, 1, 2, 3, 4] rfl (fun r u H1 locs hp hk hP1 hS => ?_)
                    subst hp
                    obtain ⟨u8, hu8⟩ : ∃ w, w = (rAct zi).2 := ⟨_, rfl⟩
                    have hP : va_P D vwCl (wM cA q N S u8) H1 := by rw [hu8]; exact hP1
                    have hD : va_D (k_A (wM cA q N S z)) (wM cA q N S u8) := wM_D hDD
                    generalize H1 = H at hP hS ⊢
                    refine lv_if_ne (tgt := 254) hx hb d_M_writeStripe_249 rfl (fun g249 => ?_) (fun g249 => ?_)
                    · have h249 := bi_nz.mp g249
                      refine lv_iinc (k := 6) (v := nI (i + 1)) (lv' := [(10, .int (nI (i + 1))), (0, .ref (q 0)), (1, .int (nI b)), (2, .int (nI f)), (3, .int (nI e1)), (4, .int v), (5, .int (nI (e1 - f)))]) hx hb d_M_writeStripe_254 hl rfl (nI_add i 1) (by decide) rfl (fun ls hl => ?_)
                      refine lv_goto hx hb d_M_writeStripe_257 rfl ?_
                      exact ih (i + 1) u8 ls H locs (by omega) (by first | (rw [hu8]; exact hr0.trans (rActs_f h249)) | exact congrArg (rActs (e1 - f + 3)) (rW1_tv (of_decide_eq_true (hdf.symm.trans h199)) hzc hVz hw) | exact congrArg (rActs (e1 - f + 3)) (rW1_fv (of_decide_eq_false (hdf.symm.trans h199)) hzc hVz hw)) (lv_sub hl [1, 2, 3, 4, 5, 6, 0] rfl) hP hS
                    · have h249 := bi_z.mp g249
                      have hr1 := hr0.trans (rActs_t h249)
                      refine lv_iconst (v := 0) hx hb d_M_writeStripe_252 (by decide) ?_
                      have e9 : (rWS N b f e1 v z).2 = u8 := by exact rWS_t2 hr1 (by assumption)
                      exact W.zret (v := 0) (ty := .boolean) hx hb hr (rfl) (fun t ht hW => ⟨⟨_, (), rfl, by exact rWS_t1 hr1, by show va_P D vwCl (wM cA q N S ((rWS N b f e1 v z).2)) t.heap; rw [ht, e9]; exact hP⟩, hS.F ht⟩) hS.2.2 d_M_writeStripe_253
              have e10 : nI 0 = 0 := by rfl
              exact L236 (e1 - f + 3) 0 (tE (tV zc V1) (upd (upd E1 8 p1) 9 q1)) ls H locs (by omega) (by first | (rw [hVv]; exact hr0.trans (rActs_f h249)) | exact congrArg (rActs (e1 - f + 3)) (rW1_tv (of_decide_eq_true (hdf.symm.trans h199)) hzc hVz hw) | exact congrArg (rActs (e1 - f + 3)) (rW1_fv (of_decide_eq_false (hdf.symm.trans h199)) hzc hVz hw)) (by rw [e10]; exact lv_sub hl [1, 2, 3, 4, 5, 6, 0] rfl) hP hS
        · have h124 : ¬ e1 ≤ (f + (e1 - f)) := fun q9 => g124 ((nI_leI (a := e1) (b := f + (e1 - f)) (by omega) (by omega)).mpr q9)
          have k124 : (f + (e1 - f)) < e1 := by omega
          exfalso; omega
      | succ k ih =>
        intro j V1 E1 p1 q1 ls H locs hk hw hl hP hS
        have hD : va_D _ (wM cA q N S (tE (tV zc V1) E1)) := wM_D hDD
        refine lv_iload hx hb d_M_writeStripe_121 (lv_at hl 9 rfl) ?_
        refine lv_iload_n hx hb d_M_writeStripe_123 rfl (lv_at hl 3 rfl) ?_
        refine lv_icmp_ge (tgt := 191) hx hb d_M_writeStripe_124 rfl (fun g124 => ?_) (fun g124 => ?_)
        · have h124 : e1 ≤ (f + j) := (nI_leI (a := e1) (b := f + j) (by omega) (by omega)).mp g124
          have k124 : ¬ (f + j) < e1 := by omega
          exfalso; omega
        · have h124 : ¬ e1 ≤ (f + j) := fun q9 => g124 ((nI_leI (a := e1) (b := f + j) (by omega) (by omega)).mpr q9)
          have k124 : (f + j) < e1 := by omega
          refine lv_iload hx hb d_M_writeStripe_127 (lv_at hl 4 rfl) ?_
          refine lv_iload hx hb d_M_writeStripe_129 (lv_at hl 9 rfl) ?_
          refine lv_iload_n hx hb d_M_writeStripe_131 rfl (lv_at hl 2 rfl) ?_
          refine lv_isub hx hb d_M_writeStripe_132 ?_
          refine k_top (nI (f + j - f)) (pk_sub (a := f + j) (b := f) (by omega)) ?_
          refine lv_iadd hx hb d_M_writeStripe_133 ?_
          refine k_top (v + nI j) (by rw [show f + j - f = j by omega]) ?_
          refine lv_istore (lv' := [(11, .int (v + nI j)), (0, .ref (q 0)), (1, .int (nI b)), (2, .int (nI f)), (3, .int (nI e1)), (4, .int v), (5, .int (nI (e1 - f))), (7, .int (bi df)), (8, .int p1), (9, .int q1), (10, .int (nI (f + j)))]) hx hb d_M_writeStripe_134 hl (by decide) rfl (fun ls hl => ?_)
          refine lv_aload_n hx hb d_M_writeStripe_136 rfl (lv_at hl 1 rfl) ?_
          refine va_get (D := D) (ci := 4) (v := .ref (q 3)) (C := R_M) (T := T_M) (N := 16) hx hb hts (in_M) hown hK hP 0 rfl rfl 11 (by decide) (hts _ m_f_M_16) (fun _ h9 => h9) rfl d_M_writeStripe_137 ?_
          refine lv_iload hx hb d_M_writeStripe_140 (lv_at hl 10 rfl) ?_
          refine va_iald (n := 10) (f := rV (tE (tV zc V1) E1)) hx hb hK hP 3 0 rfl rfl (vp_in_nI (by omega) (by omega)) d_M_writeStripe_142 ?_
          refine k_top ((rV (tE (tV zc V1) E1)) (f + j)) (by rw [show (nI (f + j) : Int32).toNatClampNeg = f + j from nI_clamp (n := f + j) (by omega)]) ?_
          refine k_top (V1 (f + j)) (by repeat (first | rw [rV_tE] | rw [rV_tV])) ?_
          refine lv_iload hx hb d_M_writeStripe_143 (lv_at hl 0 rfl) ?_
          refine lv_ixor hx hb d_M_writeStripe_145 ?_
          refine lv_istore (lv' := [(12, .int ((V1 (f + j)) ^^^ (v + nI j))), (11, .int (v + nI j)), (0, .ref (q 0)), (1, .int (nI b)), (2, .int (nI f)), (3, .int (nI e1)), (4, .int v), (5, .int (nI (e1 - f))), (7, .int (bi df)), (8, .int p1), (9, .int q1), (10, .int (nI (f + j)))]) hx hb d_M_writeStripe_146 hl (by decide) rfl (fun ls hl => ?_)
          refine lv_iload hx hb d_M_writeStripe_148 (lv_at hl 9 rfl) ?_
          refine lv_iload hx hb d_M_writeStripe_150 (lv_at hl 0 rfl) ?_
          refine lv_ixor hx hb d_M_writeStripe_152 ?_
          refine lv_istore (lv' := [(8, .int (p1 ^^^ ((V1 (f + j)) ^^^ (v + nI j)))), (12, .int ((V1 (f + j)) ^^^ (v + nI j))), (11, .int (v + nI j)), (0, .ref (q 0)), (1, .int (nI b)), (2, .int (nI f)), (3, .int (nI e1)), (4, .int v), (5, .int (nI (e1 - f))), (7, .int (bi df)), (9, .int q1), (10, .int (nI (f + j)))]) hx hb d_M_writeStripe_153 hl (by decide) rfl (fun ls hl => ?_)
          refine lv_iload hx hb d_M_writeStripe_155 (lv_at hl 10 rfl) ?_
          refine lv_iload hx hb d_M_writeStripe_157 (lv_at hl 1 rfl) ?_
          refine lv_iload hx hb d_M_writeStripe_159 (lv_at hl 11 rfl) ?_
          refine k_roi (va_runS (As := [.int ((V1 (f + j)) ^^^ (v + nI j)), .int (nI (f + j))]) (rest := [.int q1]) ⟨hx, hb, hml, hown, hts⟩ (c_Model_times l D ((V1 (f + j)) ^^^ (v + nI j)) (f + j) (by omega)) (k_cwS 2 hts m_code_M_times m_ini_M m_l_M_42 m_stat_M_times h_M_times rfl rfl ⟨Nat.le_of_ble_eq_true rfl, Nat.le_of_ble_eq_true rfl⟩) (k_s0) rfl rfl hl.1 rfl (lv_room (Nat.le_of_ble_eq_true rfl)) d_M_writeStripe_161 ⟨Nat.zero_le _, Nat.zero_le _⟩) ?_
          refine lv_ixor hx hb d_M_writeStripe_164 ?_
          refine lv_istore (lv' := [(9, .int (q1 ^^^ (tmL ((V1 (f + j)) ^^^ (v + nI j)) (f + j) 4))), (8, .int (p1 ^^^ ((V1 (f + j)) ^^^ (v + nI j)))), (12, .int ((V1 (f + j)) ^^^ (v + nI j))), (11, .int (v + nI j)), (0, .ref (q 0)), (1, .int (nI b)), (2, .int (nI f)), (3, .int (nI e1)), (4, .int v), (5, .int (nI (e1 - f))), (7, .int (bi df)), (10, .int (nI (f + j)))]) hx hb d_M_writeStripe_165 hl (by decide) rfl (fun ls hl => ?_)
          refine lv_aload_n hx hb d_M_writeStripe_167 rfl (lv_at hl 4 rfl) ?_
          refine va_get (D := D) (ci := 4) (v := .ref (q 3)) (C := R_M) (T := T_M) (N := 16) hx hb hts (in_M) hown hK hP 0 rfl rfl 11 (by decide) (hts _ m_f_M_16) (fun _ h9 => h9) rfl d_M_writeStripe_168 ?_
          refine lv_iload hx hb d_M_writeStripe_171 (lv_at hl 11 rfl) ?_
          refine lv_iload hx hb d_M_writeStripe_173 (lv_at hl 3 rfl) ?_
          refine va_iast (n := 10) (f := rV (tE (tV zc V1) E1)) hx hb hK hP hD hS 3 0 rfl rfl (vp_in_nI (by omega) (by omega)) d_M_writeStripe_175 (fun H locs hP hD hS => ?_)
          rw [show (nI (f + j) : Int32).toNatClampNeg = f + j from nI_clamp (n := f + j) (by omega)] at hP hD
          have hP : va_P D vwCl (wM cA q N S (tV (tE (tV zc V1) E1) (upd (rV (tE (tV zc V1) E1)) (f + j) (v + nI j)))) H := wM_tV hP
          have hD : va_D (k_A (wM cA q N S z)) (wM cA q N S (tV (tE (tV zc V1) E1) (upd (rV (tE (tV zc V1) E1)) (f + j) (v + nI j)))) := wM_D hDD
          have hP : va_P D vwCl (wM cA q N S (tV (tE (tV zc V1) E1) (upd V1 (f + j) (v + nI j)))) H := by simp only [rV_tE, rV_tV] at hP; exact hP
          have hD : va_D (k_A (wM cA q N S z)) (wM cA q N S (tV (tE (tV zc V1) E1) (upd V1 (f + j) (v + nI j)))) := wM_D hDD
          refine lv_aload_n hx hb d_M_writeStripe_176 rfl (lv_at hl 4 rfl) ?_
          refine va_get (D := D) (ci := 4) (v := .ref (q 4)) (C := R_M) (T := T_M) (N := 16) hx hb hts (in_M) hown hK hP 0 rfl rfl 12 (by decide) (hts _ m_f_M_19) (fun _ h9 => h9) rfl d_M_writeStripe_177 ?_
          refine lv_iload hx hb d_M_writeStripe_180 (lv_at hl 11 rfl) ?_
          refine lv_iload hx hb d_M_writeStripe_182 (lv_at hl 3 rfl) ?_
          refine va_iast (n := 10) (f := rE (tV (tE (tV zc V1) E1) (upd V1 (f + j) (v + nI j)))) hx hb hK hP hD hS 4 0 rfl rfl (vp_in_nI (by omega) (by omega)) d_M_writeStripe_184 (fun H locs hP hD hS => ?_)
          rw [show (nI (f + j) : Int32).toNatClampNeg = f + j from nI_clamp (n := f + j) (by omega)] at hP hD
          have hP : va_P D vwCl (wM cA q N S (tE (tV (tE (tV zc V1) E1) (upd V1 (f + j) (v + nI j))) (upd (rE (tV (tE (tV zc V1) E1) (upd V1 (f + j) (v + nI j)))) (f + j) (v + nI j)))) H := wM_tE hP
          have hD : va_D (k_A (wM cA q N S z)) (wM cA q N S (tE (tV (tE (tV zc V1) E1) (upd V1 (f + j) (v + nI j))) (upd (rE (tV (tE (tV zc V1) E1) (upd V1 (f + j) (v + nI j)))) (f + j) (v + nI j)))) := wM_D hDD
          have hP : va_P D vwCl (wM cA q N S (tE (tV (tE (tV zc V1) E1) (upd V1 (f + j) (v + nI j))) (upd E1 (f + j) (v + nI j)))) H := by simp only [rE_tE, rE_tV] at hP; exact hP
          have hD : va_D (k_A (wM cA q N S z)) (wM cA q N S (tE (tV (tE (tV zc V1) E1) (upd V1 (f + j) (v + nI j))) (upd E1 (f + j) (v + nI j)))) := wM_D hDD
          refine lv_iinc (k := 11) (v := nI (f + j + 1)) (lv' := [(10, .int (nI (f + j + 1))), (9, .int (q1 ^^^ (tmL ((V1 (f + j)) ^^^ (v + nI j)) (f + j) 4))), (8, .int (p1 ^^^ ((V1 (f + j)) ^^^ (v + nI j)))), (12, .int ((V1 (f + j)) ^^^ (v + nI j))), (11, .int (v + nI j)), (0, .ref (q 0)), (1, .int (nI b)), (2, .int (nI f)), (3, .int (nI e1)), (4, .int v), (5, .int (nI (e1 - f))), (7, .int (bi df))]) hx hb d_M_writeStripe_185 hl rfl (nI_add (f + j) 1) (by decide) rfl (fun ls hl => ?_)
          refine lv_goto hx hb d_M_writeStripe_188 rfl ?_
          have e11 : nI (f + (j + 1)) = nI (f + j + 1) := by first | rfl | omega
          have e12 : tE (tV zc (upd V1 (f + j) (v + nI j))) (upd E1 (f + j) (v + nI j)) = tE (tV (tE (tV zc V1) E1) (upd V1 (f + j) (v + nI j))) (upd E1 (f + j) (v + nI j)) := by first | exact tE_VE.symm | exact tE_ez
          exact ih (j + 1) (upd V1 (f + j) (v + nI j)) (upd E1 (f + j) (v + nI j)) (p1 ^^^ ((V1 (f + j)) ^^^ (v + nI j))) (q1 ^^^ (tmL ((V1 (f + j)) ^^^ (v + nI j)) (f + j) 4)) ls H locs (by omega) (by first | exact rwL_st hw | (rw [rwL_0, hzc, rE_tRc])) (by rw [e11]; exact lv_sub hl [5, 6, 7, 8, 9, 10, 11, 2, 1, 0] rfl) (by rw [e12]; exact hP) hS
    have e13 : nI (f + 0) = nI f := by first | rfl | omega
    have e14 : tE (tV zc Vv) (rE zc) = tV zc Vv := by first | exact tE_VE.symm | exact tE_ez
    exact L121 (e1 - f) 0 Vv (rE zc) (Vv 8) (Vv 9) ls H locs (by omega) (by first | exact rwL_st hw | (rw [rwL_0, hzc, rE_tRc])) (by rw [e13]; exact lv_sub hl [3, 4, 5, 6, 7, 8, 9, 2, 1, 0] rfl) (by rw [e14]; exact hP) hS
  refine lv_iload_n hx hb d_M_writeStripe_0 rfl (lv_at hl 3 rfl) ?_
  refine lv_iload_n hx hb d_M_writeStripe_1 rfl (lv_at hl 2 rfl) ?_
  refine lv_isub hx hb d_M_writeStripe_2 ?_
  refine k_top (nI (e1 - f)) (pk_sub (a := e1) (b := f) (by omega)) ?_
  refine lv_istore (lv' := [(5, .int (nI (e1 - f))), (0, .ref (q 0)), (1, .int (nI b)), (2, .int (nI f)), (3, .int (nI e1)), (4, .int v)]) hx hb d_M_writeStripe_3 hl (by decide) rfl (fun ls hl => ?_)
  refine lv_aload_n hx hb d_M_writeStripe_5 rfl (lv_at hl 1 rfl) ?_
  refine lv_iload_n hx hb d_M_writeStripe_6 rfl (lv_at hl 2 rfl) ?_
  refine k_roi (va_runV (C := R_M) (As := [.int (nI b)]) (rest := []) ⟨hx, hb, hml, hown, hts⟩ (c_Model_availableIn l D cA q N S z (by omega) (by omega) (by omega) (by omega) (nI b)) (k_cwV 1 hts m_code_M_availableIn m_ini_M m_l_M_112 m_inst_M_availableIn m_sel_M_availableIn h_M_availableIn rfl rfl ⟨Nat.le_of_ble_eq_true rfl, Nat.le_of_ble_eq_true rfl⟩) (k_pR hP hK [0, 1, 2, 3, 4] rfl 0 4 rfl rfl) rfl rfl hl.1 rfl (lv_room (Nat.le_of_ble_eq_true rfl)) d_M_writeStripe_7 ⟨Nat.zero_le _, Nat.zero_le _⟩) ?_
  have f15 : cntA (rP z) (nI b) N ≤ N := cntA_le _ _ _
  refine lv_aload_n hx hb d_M_writeStripe_10 rfl (lv_at hl 1 rfl) ?_
  refine va_get (D := D) (ci := 4) (v := .int (nI N)) (C := R_M) (T := T_M) (N := 16) hx hb hts (in_M) hown hK hP 0 rfl rfl 0 (by decide) (hts _ m_f_M_26) (fun _ h9 => h9) rfl d_M_writeStripe_11 ?_
  refine lv_icmp_ne (tgt := 21) hx hb d_M_writeStripe_14 rfl (fun g14 => ?_) (fun g14 => ?_)
  · have h14 : ¬ (cntA (rP z) (nI b) N) = N := fun q9 => g14 ((nI_eq (a := cntA (rP z) (nI b) N) (b := N) (by omega) (by omega)).mpr q9)
    refine lv_iconst (v := 0) hx hb d_M_writeStripe_21 (by decide) ?_
    refine lv_istore (lv' := [(6, .int 0), (5, .int (nI (e1 - f))), (0, .ref (q 0)), (1, .int (nI b)), (2, .int (nI f)), (3, .int (nI e1)), (4, .int v)]) hx hb d_M_writeStripe_22 hl (by decide) rfl (fun ls hl => ?_)
    refine lv_iload hx hb d_M_writeStripe_24 (lv_at hl 0 rfl) ?_
    refine lv_if_eq (tgt := 49) hx hb d_M_writeStripe_26 rfl (fun g26 => ?_) (fun g26 => ?_)
    · refine lv_iconst (v := 0) hx hb d_M_writeStripe_49 (by decide) ?_
      refine lv_istore (lv' := [(7, .int 0), (6, .int 0), (5, .int (nI (e1 - f))), (0, .ref (q 0)), (1, .int (nI b)), (2, .int (nI f)), (3, .int (nI e1)), (4, .int v)]) hx hb d_M_writeStripe_50 hl (by decide) rfl (fun ls hl => ?_)
      refine lv_aload_n hx hb d_M_writeStripe_52 rfl (lv_at hl 3 rfl) ?_
      refine lv_dup hx hb d_M_writeStripe_53 rfl ?_
      refine va_get (D := D) (ci := 4) (v := .int (rRc z)) (C := R_M) (T := T_M) (N := 16) hx hb hts (in_M) hown hK hP 0 rfl rfl 7 (by decide) (hts _ m_f_M_109) (fun _ h9 => h9) rfl d_M_writeStripe_54 ?_
      refine lv_iload hx hb d_M_writeStripe_57 (lv_at hl 1 rfl) ?_
      refine lv_if_ne (tgt := 70) hx hb d_M_writeStripe_59 rfl (fun g59 => ?_) (fun g59 => ?_)
      · exact absurd g59 (by decide)
      · refine lv_aload_n hx hb d_M_writeStripe_62 rfl (lv_at hl 3 rfl) ?_
        refine lv_iload_n hx hb d_M_writeStripe_63 rfl (lv_at hl 4 rfl) ?_
        refine k_roi (va_runV (C := R_M) (As := [.int (nI b)]) (rest := [.int (rRc z), .ref (q 0)]) ⟨hx, hb, hml, hown, hts⟩ (c_Model_availableIn l D cA q N S z (by omega) (by omega) (by omega) (by omega) (nI b)) (k_cwV 1 hts m_code_M_availableIn m_ini_M m_l_M_112 m_inst_M_availableIn m_sel_M_availableIn h_M_availableIn rfl rfl ⟨Nat.le_of_ble_eq_true rfl, Nat.le_of_ble_eq_true rfl⟩) (k_pR hP hK [0, 1, 2, 3, 4] rfl 0 4 rfl rfl) rfl rfl hl.1 rfl (lv_room (Nat.le_of_ble_eq_true rfl)) d_M_writeStripe_64 ⟨Nat.zero_le _, Nat.zero_le _⟩) ?_
        have f16 : cntA (rP z) (nI b) N ≤ N := cntA_le _ _ _
        refine lv_goto hx hb d_M_writeStripe_67 rfl ?_
        refine lv_iadd hx hb d_M_writeStripe_91 ?_
        refine va_put (D := D) (ci := 4) (v := .int ((rRc z) + (nI (cntA (rP z) (nI b) N)))) (ty := .int) (C := R_M) (T := T_M) (N := 16) hx hb hts (in_M) ty_M tyok_M nm_M hown hK hP hD hS 0 rfl rfl 7 (by decide) (hts _ m_f_M_109) (fun _ h9 => h9) rfl (by decide +kernel) rfl rfl (Nat.le_of_ble_eq_true rfl) d_M_writeStripe_92 (fun H locs hP hD hS => ?_)
        have hP : va_P D vwCl (wM cA q N S (tRc z ((rRc z) + (nI (cntA (rP z) (nI b) N))))) H := wM_tRc hP
        have hD : va_D (k_A (wM cA q N S z)) (wM cA q N S (tRc z ((rRc z) + (nI (cntA (rP z) (nI b) N))))) := wM_D hDD
        have e17 : bi false = 0 := by rfl
        exact L95 false (tRc z ((rRc z) + (nI (cntA (rP z) (nI b) N)))) ls H locs (by first | exact (decide_eq_true ⟨h14, k42⟩).symm | exact (decide_eq_false (fun w => h14 w.1)).symm | exact (decide_eq_false (fun w => k42 w.2)).symm) (by unfold rRcW; first | rw [if_pos h14, if_pos k42] | rw [if_pos h14, if_neg k42] | rw [if_neg h14]) (by rw [e17]; exact lv_sub hl [3, 4, 5, 6, 7, 2, 0] rfl) hP hS
    · exact absurd g26 (by decide)
  · have h14 : (cntA (rP z) (nI b) N) = N := (nI_eq (a := cntA (rP z) (nI b) N) (b := N) (by omega) (by omega)).mp g14
    refine lv_iconst (v := 1) hx hb d_M_writeStripe_17 (by decide) ?_
    refine lv_goto hx hb d_M_writeStripe_18 rfl ?_
    refine lv_istore (lv' := [(6, .int 1), (5, .int (nI (e1 - f))), (0, .ref (q 0)), (1, .int (nI b)), (2, .int (nI f)), (3, .int (nI e1)), (4, .int v)]) hx hb d_M_writeStripe_22 hl (by decide) rfl (fun ls hl => ?_)
    refine lv_iload hx hb d_M_writeStripe_24 (lv_at hl 0 rfl) ?_
    refine lv_if_eq (tgt := 49) hx hb d_M_writeStripe_26 rfl (fun g26 => ?_) (fun g26 => ?_)
    · exact absurd g26 (by decide)
    · refine lv_iload hx hb d_M_writeStripe_29 (lv_at hl 1 rfl) ?_
      refine lv_iconst (v := 2) hx hb d_M_writeStripe_31 (by decide) ?_
      refine lv_iadd hx hb d_M_writeStripe_32 ?_
      refine k_top (nI (e1 - f + 2)) (nI_add (e1 - f) 2) ?_
      refine lv_aload_n hx hb d_M_writeStripe_33 rfl (lv_at hl 2 rfl) ?_
      refine va_get (D := D) (ci := 4) (v := .int (nI N)) (C := R_M) (T := T_M) (N := 16) hx hb hts (in_M) hown hK hP 0 rfl rfl 0 (by decide) (hts _ m_f_M_26) (fun _ h9 => h9) rfl d_M_writeStripe_34 ?_
      refine lv_iconst (v := 2) hx hb d_M_writeStripe_37 (by decide) ?_
      refine lv_isub hx hb d_M_writeStripe_38 ?_
      refine k_top (nI (N - 2)) (pk_sub (a := N) (b := 2) (by omega)) ?_
      refine lv_iload hx hb d_M_writeStripe_39 (lv_at hl 1 rfl) ?_
      refine lv_isub hx hb d_M_writeStripe_41 ?_
      refine k_top (nI (N - 2 - (e1 - f))) (pk_sub (a := N - 2) (b := e1 - f) (by omega)) ?_
      refine lv_icmp_ge (tgt := 49) hx hb d_M_writeStripe_42 rfl (fun g42 => ?_) (fun g42 => ?_)
      · have h42 : (N - 2 - (e1 - f)) ≤ (e1 - f + 2) := (nI_leI (a := N - 2 - (e1 - f)) (b := e1 - f + 2) (by omega) (by omega)).mp g42
        have k42 : ¬ (e1 - f + 2) < (N - 2 - (e1 - f)) := by omega
        refine lv_iconst (v := 0) hx hb d_M_writeStripe_49 (by decide) ?_
        refine lv_istore (lv' := [(7, .int 0), (6, .int 1), (5, .int (nI (e1 - f))), (0, .ref (q 0)), (1, .int (nI b)), (2, .int (nI f)), (3, .int (nI e1)), (4, .int v)]) hx hb d_M_writeStripe_50 hl (by decide) rfl (fun ls hl => ?_)
        refine lv_aload_n hx hb d_M_writeStripe_52 rfl (lv_at hl 3 rfl) ?_
        refine lv_dup hx hb d_M_writeStripe_53 rfl ?_
        refine va_get (D := D) (ci := 4) (v := .int (rRc z)) (C := R_M) (T := T_M) (N := 16) hx hb hts (in_M) hown hK hP 0 rfl rfl 7 (by decide) (hts _ m_f_M_109) (fun _ h9 => h9) rfl d_M_writeStripe_54 ?_
        refine lv_iload hx hb d_M_writeStripe_57 (lv_at hl 1 rfl) ?_
        refine lv_if_ne (tgt := 70) hx hb d_M_writeStripe_59 rfl (fun g59 => ?_) (fun g59 => ?_)
        · refine lv_iload hx hb d_M_writeStripe_70 (lv_at hl 0 rfl) ?_
          refine lv_if_eq (tgt := 82) hx hb d_M_writeStripe_72 rfl (fun g72 => ?_) (fun g72 => ?_)
          · refine lv_aload_n hx hb d_M_writeStripe_82 rfl (lv_at hl 3 rfl) ?_
            refine va_get (D := D) (ci := 4) (v := .int (nI N)) (C := R_M) (T := T_M) (N := 16) hx hb hts (in_M) hown hK hP 0 rfl rfl 0 (by decide) (hts _ m_f_M_26) (fun _ h9 => h9) rfl d_M_writeStripe_83 ?_
            refine lv_iconst (v := 2) hx hb d_M_writeStripe_86 (by decide) ?_
            refine lv_isub hx hb d_M_writeStripe_87 ?_
            refine k_top (nI (N - 2)) (pk_sub (a := N) (b := 2) (by omega)) ?_
            refine lv_iload hx hb d_M_writeStripe_88 (lv_at hl 2 rfl) ?_
            refine lv_isub hx hb d_M_writeStripe_90 ?_
            refine k_top (nI (N - 2 - (e1 - f))) (pk_sub (a := N - 2) (b := e1 - f) (by omega)) ?_
            refine lv_iadd hx hb d_M_writeStripe_91 ?_
            refine va_put (D := D) (ci := 4) (v := .int ((rRc z) + (nI (N - 2 - (e1 - f))))) (ty := .int) (C := R_M) (T := T_M) (N := 16) hx hb hts (in_M) ty_M tyok_M nm_M hown hK hP hD hS 0 rfl rfl 7 (by decide) (hts _ m_f_M_109) (fun _ h9 => h9) rfl (by decide +kernel) rfl rfl (Nat.le_of_ble_eq_true rfl) d_M_writeStripe_92 (fun H locs hP hD hS => ?_)
            have hP : va_P D vwCl (wM cA q N S (tRc z ((rRc z) + (nI (N - 2 - (e1 - f)))))) H := wM_tRc hP
            have hD : va_D (k_A (wM cA q N S z)) (wM cA q N S (tRc z ((rRc z) + (nI (N - 2 - (e1 - f)))))) := wM_D hDD
            have e18 : bi false = 0 := by rfl
            exact L95 false (tRc z ((rRc z) + (nI (N - 2 - (e1 - f))))) ls H locs (by first | exact (decide_eq_true ⟨h14, k42⟩).symm | exact (decide_eq_false (fun w => h14 w.1)).symm | exact (decide_eq_false (fun w => k42 w.2)).symm) (by unfold rRcW; first | rw [if_pos h14, if_pos k42] | rw [if_pos h14, if_neg k42] | rw [if_neg h14]) (by rw [e18]; exact lv_sub hl [3, 4, 5, 6, 7, 2, 0] rfl) hP hS
          · exact absurd g72 (by decide)
        · exact absurd g59 (by decide)
      · have h42 : ¬ (N - 2 - (e1 - f)) ≤ (e1 - f + 2) := fun q9 => g42 ((nI_leI (a := N - 2 - (e1 - f)) (b := e1 - f + 2) (by omega) (by omega)).mpr q9)
        have k42 : (e1 - f + 2) < (N - 2 - (e1 - f)) := by omega
        refine lv_iconst (v := 1) hx hb d_M_writeStripe_45 (by decide) ?_
        refine lv_goto hx hb d_M_writeStripe_46 rfl ?_
        refine lv_istore (lv' := [(7, .int 1), (6, .int 1), (5, .int (nI (e1 - f))), (0, .ref (q 0)), (1, .int (nI b)), (2, .int (nI f)), (3, .int (nI e1)), (4, .int v)]) hx hb d_M_writeStripe_50 hl (by decide) rfl (fun ls hl => ?_)
        refine lv_aload_n hx hb d_M_writeStripe_52 rfl (lv_at hl 3 rfl) ?_
        refine lv_dup hx hb d_M_writeStripe_53 rfl ?_
        refine va_get (D := D) (ci := 4) (v := .int (rRc z)) (C := R_M) (T := T_M) (N := 16) hx hb hts (in_M) hown hK hP 0 rfl rfl 7 (by decide) (hts _ m_f_M_109) (fun _ h9 => h9) rfl d_M_writeStripe_54 ?_
        refine lv_iload hx hb d_M_writeStripe_57 (lv_at hl 1 rfl) ?_
        refine lv_if_ne (tgt := 70) hx hb d_M_writeStripe_59 rfl (fun g59 => ?_) (fun g59 => ?_)
        · refine lv_iload hx hb d_M_writeStripe_70 (lv_at hl 0 rfl) ?_
          refine lv_if_eq (tgt := 82) hx hb d_M_writeStripe_72 rfl (fun g72 => ?_) (fun g72 => ?_)
          · exact absurd g72 (by decide)
          · refine lv_iload hx hb d_M_writeStripe_75 (lv_at hl 2 rfl) ?_
            refine lv_iconst (v := 2) hx hb d_M_writeStripe_77 (by decide) ?_
            refine lv_iadd hx hb d_M_writeStripe_78 ?_
            refine k_top (nI (e1 - f + 2)) (nI_add (e1 - f) 2) ?_
            refine lv_goto hx hb d_M_writeStripe_79 rfl ?_
            refine lv_iadd hx hb d_M_writeStripe_91 ?_
            refine va_put (D := D) (ci := 4) (v := .int ((rRc z) + (nI (e1 - f + 2)))) (ty := .int) (C := R_M) (T := T_M) (N := 16) hx hb hts (in_M) ty_M tyok_M nm_M hown hK hP hD hS 0 rfl rfl 7 (by decide) (hts _ m_f_M_109) (fun _ h9 => h9) rfl (by decide +kernel) rfl rfl (Nat.le_of_ble_eq_true rfl) d_M_writeStripe_92 (fun H locs hP hD hS => ?_)
            have hP : va_P D vwCl (wM cA q N S (tRc z ((rRc z) + (nI (e1 - f + 2))))) H := wM_tRc hP
            have hD : va_D (k_A (wM cA q N S z)) (wM cA q N S (tRc z ((rRc z) + (nI (e1 - f + 2))))) := wM_D hDD
            have e19 : bi true = 1 := by rfl
            exact L95 true (tRc z ((rRc z) + (nI (e1 - f + 2)))) ls H locs (by first | exact (decide_eq_true ⟨h14, k42⟩).symm | exact (decide_eq_false (fun w => h14 w.1)).symm | exact (decide_eq_false (fun w => k42 w.2)).symm) (by unfold rRcW; first | rw [if_pos h14, if_pos k42] | rw [if_pos h14, if_neg k42] | rw [if_neg h14]) (by rw [e19]; exact lv_sub hl [3, 4, 5, 6, 7, 2, 0] rfl) hP hS
        · exact absurd g59 (by decide)
