/-! contracts of two kinds (one only reads, one writes its own cells), and the rows by which they are called -/
def k_Ro (v : Option Value) : Array Value → State → Outcome → State → Prop := fun _ st o t => o = .returned v ∧ t.heap = st.heap
def k_A (wc : va_W) : Nat → Prop := fun q => ∃ (k : Nat) (e : va_E), wc[k]? = some (q, e)
def k_Tb (A : Nat → Prop) (U : State) (H : Heap) : Prop := ∃ tb : Nat, va_Z "DualParityArray$Words" "INVERSES_OF_1_PLUS_POWER" "[I" (.ref tb) A U H ∧ va_T .int tb 8 (fun j => .int (tabI j)) A U H
theorem k_Tb_moved {A : Nat → Prop} {u U : State} {H : Heap} (hvm : u.vm.Alike U.vm) (h : k_Tb A u H) : k_Tb A U H := by
  obtain ⟨tb, h1, h2⟩ := h
  exact ⟨tb, h1.moved hvm, h2.moved hvm⟩
theorem k_Tb_kept {A : Nat → Prop} {U : State} {H H1 : Heap} (h : k_Tb A U H) (hq : ∀ a : Nat, a < H.size → ¬ A a → H1[a]? = H[a]?) : k_Tb A U H1 := by
  obtain ⟨tb, h1, h2⟩ := h
  exact ⟨tb, h1.kept hq, h2.kept hq⟩
theorem k_Tb_narrow {A B : Nat → Prop} {U : State} {H : Heap} (h : k_Tb A U H) (hAB : ∀ q, B q → A q) : k_Tb B U H := by
  obtain ⟨tb, h1, h2⟩ := h
  exact ⟨tb, h1.narrow hAB, h2.narrow hAB⟩
theorem k_Psub {D : va_G} {cl : List vw_C} {ws wc : va_W} {H : Heap} (h : va_P D cl ws H) (is : List Nat) (hC : is.map (fun i => ws[i]?) = wc.map some) : va_P D cl wc H := by
  intro k q hq
  have h1 : (is.map (fun i => ws[i]?))[k]? = some (some q) := by rw [hC, List.getElem?_map, hq]; rfl
  rw [List.getElem?_map] at h1
  cases hi : is[k]? with
  | none => rw [hi] at h1; cases h1
  | some i => rw [hi] at h1; exact h i q (Option.some.inj h1)
theorem k_Asub {A0 : Nat → Prop} {ws wc : va_W} (hD : va_D A0 ws) (is : List Nat) (hC : is.map (fun i => ws[i]?) = wc.map some) : ∀ q, k_A wc q → A0 q := by
  intro q hq
  obtain ⟨k, e, h⟩ := hq
  have h1 : (is.map (fun i => ws[i]?))[k]? = some (some (q, e)) := by rw [hC, List.getElem?_map, h]; rfl
  rw [List.getElem?_map] at h1
  cases hi : is[k]? with
  | none => rw [hi] at h1; cases h1
  | some i => rw [hi] at h1; exact hD.2 i (q, e) (Option.some.inj h1)
theorem k_Dself {ws : va_W} {A : Nat → Prop} (h : va_D A ws) : va_D (k_A ws) ws := ⟨h.1, fun k q hk => ⟨k, q.2, hk⟩⟩
theorem k_D {A : Nat → Prop} {ws ws' : va_W} (hD : va_D A ws) (h : ws.map Prod.fst = ws'.map Prod.fst) : va_D A ws' := by
  have key : ∀ (k : Nat) (q : Nat × va_E), ws'[k]? = some q → ∃ q0, ws[k]? = some q0 ∧ q0.1 = q.1 := by
    intro k q hk
    have h1 : (ws'.map Prod.fst)[k]? = some q.1 := by rw [List.getElem?_map, hk]; rfl
    rw [← h, List.getElem?_map] at h1
    cases hi : ws[k]? with
    | none => rw [hi] at h1; cases h1
    | some q0 => rw [hi] at h1; exact ⟨q0, rfl, Option.some.inj h1⟩
  refine ⟨fun i j x y hi hj hxy => ?_, fun k q hk => ?_⟩
  · obtain ⟨x0, h1, h2⟩ := key i x hi
    obtain ⟨y0, h3, h4⟩ := key j y hj
    exact hD.1 i j x0 y0 h1 h3 (h2.trans (hxy.trans h4.symm))
  · obtain ⟨q0, h1, h2⟩ := key k q hk
    rw [← h2]
    exact hD.2 k q0 h1
/-- behind a call that wrote its own cells: the caller's world again -/
theorem k_back {A : Nat → Prop} {D : va_G} {cl : List vw_C} {ws wc wr w1 ws' : va_W} {H H1 : Heap} (hP : va_P D cl ws H) (hD : va_D A ws) (isC isR : List Nat) (hC : isC.map (fun i => ws[i]?) = wc.map some) (hR : isR.map (fun i => ws[i]?) = wr.map some) (hdis : ∀ i ∈ isR, i ∉ isC)
    (hk : ∀ q : Nat, q < H.size → ¬ k_A wc q → H1[q]? = H[q]?) (hP1 : va_P D cl w1 H1) (is : List Nat) (hs : is.filterMap (fun i => (wr ++ w1)[i]?) = ws') : va_P D cl ws' H1 := by
  have at' : ∀ {is : List Nat} {w : va_W}, is.map (fun i => ws[i]?) = w.map some → ∀ (k : Nat) (q : Nat × va_E), w[k]? = some q → ∃ i, is[k]? = some i ∧ ws[i]? = some q := by
    intro is w hs k q hq
    have h1 : (is.map (fun i => ws[i]?))[k]? = some (some q) := by rw [hs, List.getElem?_map, hq]; rfl
    rw [List.getElem?_map] at h1
    cases hi : is[k]? with
    | none => rw [hi] at h1; cases h1
    | some i => rw [hi] at h1; exact ⟨i, rfl, Option.some.inj h1⟩
  refine va_P.sub (va_P.app (w1 := wr) (fun k q hq => ?_) hP1) is hs
  obtain ⟨i, h1, h2⟩ := at' hR k q hq
  refine (hP i q h2).kept (hk q.1 (hP i q h2).lt (fun h => ?_))
  obtain ⟨k2, e, h⟩ := h
  obtain ⟨j, h3, h4⟩ := at' hC k2 (q.1, e) h
  have hij := hD.1 i j q (q.1, e) h2 h4 rfl
  subst hij
  exact hdis i (List.mem_of_getElem? h1) (List.mem_of_getElem? h3)
abbrev k_R (D : va_G) (tys : List (ClassId × FieldType)) (wc : va_W) : State → Prop := fun U => va_P D vwCl wc U.heap ∧ va_K D vwCl tys U
abbrev k_Wc (D : va_G) (tys : List (ClassId × FieldType)) (wc : va_W) : State → Prop := fun U => va_P D vwCl wc U.heap ∧ va_K D vwCl tys U ∧ va_D (fun _ => True) wc
abbrev k_WT (D : va_G) (tys : List (ClassId × FieldType)) (wc : va_W) : State → Prop := fun U => va_P D vwCl wc U.heap ∧ va_K D vwCl tys U ∧ va_D (fun _ => True) wc ∧ k_Tb (k_A wc) U U.heap
theorem k_R_b {D : va_G} {tys : List (ClassId × FieldType)} {wc : va_W} {av : List Value} : FrameBlind (va_Pc av (k_R D tys wc)) := fun a U g mk q => by
  obtain ⟨q0, qP, qK⟩ := q
  exact ⟨q0, qP, va_K.moved (u := U) (U := U.calling g mk a) (Vm.Alike.refl U.vm) qK⟩
theorem k_Wc_b {D : va_G} {tys : List (ClassId × FieldType)} {wc : va_W} {av : List Value} : FrameBlind (va_Pc av (k_Wc D tys wc)) := fun a U g mk q => by
  obtain ⟨q0, qP, qK, qD⟩ := q
  exact ⟨q0, qP, va_K.moved (u := U) (U := U.calling g mk a) (Vm.Alike.refl U.vm) qK, qD⟩
theorem k_WT_b {D : va_G} {tys : List (ClassId × FieldType)} {wc : va_W} {av : List Value} : FrameBlind (va_Pc av (k_WT D tys wc)) := fun a U g mk q => by
  obtain ⟨q0, qP, qK, qD, qT⟩ := q
  exact ⟨q0, qP, va_K.moved (u := U) (U := U.calling g mk a) (Vm.Alike.refl U.vm) qK, qD, k_Tb_moved (u := U) (U := U.calling g mk a) (Vm.Alike.refl U.vm) qT⟩
section KPre
variable {s : State} {H : Heap} {D : va_G} {tys : List (ClassId × FieldType)} {ws wc : va_W} {b : Nat} {As : List Value} {A : Nat → Prop} {locs : List Loc}
theorem k_pR (hP : va_P D vwCl ws H) (hK : va_K D vwCl tys s) (is : List Nat) (hC : is.map (fun i => ws[i]?) = wc.map some) {q : vw_C} {fs : List Value} (q0 ci : Nat) (hc : vwCl[ci]? = some q) (he : ws[q0]? = some (b, .inr (ci, fs))) : PreV s H q.1 b (va_Pc (.ref b :: As) (k_R D tys wc)) As :=
  ⟨k_R_b, va_recv hK hP hc he, fun U hU hW => ⟨rfl, by rw [hU]; exact k_Psub hP is hC, va_K.moved hW.alike hK⟩⟩
theorem k_sR (hP : va_P D vwCl ws H) (hK : va_K D vwCl tys s) (is : List Nat) (hC : is.map (fun i => ws[i]?) = wc.map some) : PreS s H (va_Pc As (k_R D tys wc)) As :=
  ⟨k_R_b, fun U hU hW => ⟨rfl, by rw [hU]; exact k_Psub hP is hC, va_K.moved hW.alike hK⟩⟩
theorem k_s0 : PreS s H (va_Pc As (fun _ => True)) As := ⟨fun _ _ _ _ q => q, fun _ _ _ => ⟨rfl, trivial⟩⟩
theorem k_pW (hP : va_P D vwCl ws H) (hK : va_K D vwCl tys s) (hD : va_D A ws) (is : List Nat) (hn : va_nd is = true) (hC : is.map (fun i => ws[i]?) = wc.map some) {q : vw_C} {fs : List Value} (q0 ci : Nat) (hc : vwCl[ci]? = some q) (he : ws[q0]? = some (b, .inr (ci, fs))) : PreV s H q.1 b (va_Pc (.ref b :: As) (k_Wc D tys wc)) As :=
  ⟨k_Wc_b, va_recv hK hP hc he, fun U hU hW => ⟨rfl, by rw [hU]; exact k_Psub hP is hC, va_K.moved hW.alike hK, (hD.sub is hn hC).weaken (fun _ _ _ _ => trivial)⟩⟩
theorem k_pT (hP : va_P D vwCl ws H) (hK : va_K D vwCl tys s) (hD : va_D A ws) (hT : k_Tb A s s.heap) (hS : va_S A s.heap H locs) (is : List Nat) (hn : va_nd is = true) (hC : is.map (fun i => ws[i]?) = wc.map some) {q : vw_C} {fs : List Value} (q0 ci : Nat) (hc : vwCl[ci]? = some q) (he : ws[q0]? = some (b, .inr (ci, fs))) : PreV s H q.1 b (va_Pc (.ref b :: As) (k_WT D tys wc)) As :=
  ⟨k_WT_b, va_recv hK hP hc he, fun U hU hW => ⟨rfl, by rw [hU]; exact k_Psub hP is hC, va_K.moved hW.alike hK, (hD.sub is hn hC).weaken (fun _ _ _ _ => trivial), by rw [hU]; exact k_Tb_moved hW.alike (k_Tb_narrow (k_Tb_kept hT hS.2.1) (k_Asub hD is hC))⟩⟩
end KPre
section KCall
variable {p : Program} {l : Launch} {e : Env} {R : Room} {s : State} {m : MethodId} {args : Array Value} {below : List Frame} {meth : Method} {c : Code} {H : Heap} {locs : List Loc} {cells slots : Nat} {Q : State → Prop}
variable {pc : Nat} {ls : Array Slot} {rest st0 : List Value} {a : Array Value}
theorem k_top {x : Int32} (y : Int32) (h : x = y) (k : W p l e R s m args below meth c H locs cells slots Q (F0 m pc ls (.int y :: rest))) : W p l e R s m args below meth c H locs cells slots Q (F0 m pc ls (.int x :: rest)) := by
  rw [h]; exact k
theorem k_topl {x : Int64} (y : Int64) (h : x = y) (k : W p l e R s m args below meth c H locs cells slots Q (F0 m pc ls (.long y :: rest))) : W p l e R s m args below meth c H locs cells slots Q (F0 m pc ls (.long x :: rest)) := by
  rw [h]; exact k
theorem k_roi {r : Int32} (hr : va_Run p l e R s m args below meth c H locs cells slots 0 0 (F0 m pc ls st0) rest (k_Ro (some (.int r)) a) (fun _ => False)) (kk : W p l e R s m args below meth c H locs cells slots Q (F0 m (pc + 3) ls (.int r :: rest))) : W p l e R s m args below meth c H locs cells slots Q (F0 m pc ls st0) := by
  intro T hT X
  obtain ⟨v, st₀, t, T', L, h0, X', hL, e1, e2, ⟨hv, hh⟩, st⟩ := hr T hT X
  cases hv
  obtain ⟨t2, a1, b1⟩ := kk T' (by rw [e1, hh, h0]) (Stand.forget X' (fun q h => (hL q h).elim))
  exact ⟨t2, st t2 a1, b1⟩
theorem k_rol {r : Int64} (hr : va_Run p l e R s m args below meth c H locs cells slots 0 0 (F0 m pc ls st0) rest (k_Ro (some (.long r)) a) (fun _ => False)) (kk : W p l e R s m args below meth c H locs cells slots Q (F0 m (pc + 3) ls (.long r :: rest))) : W p l e R s m args below meth c H locs cells slots Q (F0 m pc ls st0) := by
  intro T hT X
  obtain ⟨v, st₀, t, T', L, h0, X', hL, e1, e2, ⟨hv, hh⟩, st⟩ := hr T hT X
  cases hv
  obtain ⟨t2, a1, b1⟩ := kk T' (by rw [e1, hh, h0]) (Stand.forget X' (fun q h => (hL q h).elim))
  exact ⟨t2, st t2 a1, b1⟩
variable {D : va_G} {ws wc : va_W} {A0 : Nat → Prop} {H0 : Heap}
theorem k_wri {S : Type} {post : Int32 → S → Prop} {w1 : S → va_W} (hr : va_Run p l e R s m args below meth c H locs cells slots 0 0 (F0 m pc ls st0) rest (va_Qi post (fun u t => va_P D vwCl (w1 u) t.heap) (k_A wc) a) (k_A wc)) (hS : va_S A0 H0 H locs) (hD : va_D A0 ws) (is : List Nat) (hC : is.map (fun i => ws[i]?) = wc.map some)
    (kk : ∀ (r : Int32) (u : S) (H1 : Heap) (locs1 : List Loc), post r u → (∀ q : Nat, q < H.size → ¬ k_A wc q → H1[q]? = H[q]?) → va_P D vwCl (w1 u) H1 → va_S A0 H0 H1 locs1 → W p l e R s m args below meth c H1 locs1 cells slots Q (F0 m (pc + 3) ls (.int r :: rest))) : W p l e R s m args below meth c H locs cells slots Q (F0 m pc ls st0) :=
  va_calli hr hS (fun q _ h => k_Asub hD is hC q h) (k_Asub hD is hC) (fun r u t H1 locs1 ht _ hp hB _ hk hS1 => kk r u H1 locs1 hp hk (by rw [← ht]; exact hB) hS1)
theorem k_wrl {S : Type} {post : Int64 → S → Prop} {w1 : S → va_W} (hr : va_Run p l e R s m args below meth c H locs cells slots 0 0 (F0 m pc ls st0) rest (va_Ql post (fun u t => va_P D vwCl (w1 u) t.heap) (k_A wc) a) (k_A wc)) (hS : va_S A0 H0 H locs) (hD : va_D A0 ws) (is : List Nat) (hC : is.map (fun i => ws[i]?) = wc.map some)
    (kk : ∀ (r : Int64) (u : S) (H1 : Heap) (locs1 : List Loc), post r u → (∀ q : Nat, q < H.size → ¬ k_A wc q → H1[q]? = H[q]?) → va_P D vwCl (w1 u) H1 → va_S A0 H0 H1 locs1 → W p l e R s m args below meth c H1 locs1 cells slots Q (F0 m (pc + 3) ls (.long r :: rest))) : W p l e R s m args below meth c H locs cells slots Q (F0 m pc ls st0) :=
  va_calll hr hS (fun q _ h => k_Asub hD is hC q h) (k_Asub hD is hC) (fun r u t H1 locs1 ht _ hp hB _ hk hS1 => kk r u H1 locs1 hp hk (by rw [← ht]; exact hB) hS1)
theorem k_wrv {S : Type} {post : S → Prop} {w1 : S → va_W} (hr : va_Run p l e R s m args below meth c H locs cells slots 0 0 (F0 m pc ls st0) rest (va_Qv post (fun u t => va_P D vwCl (w1 u) t.heap) (k_A wc) a) (k_A wc)) (hS : va_S A0 H0 H locs) (hD : va_D A0 ws) (is : List Nat) (hC : is.map (fun i => ws[i]?) = wc.map some)
    (kk : ∀ (u : S) (H1 : Heap) (locs1 : List Loc), post u → (∀ q : Nat, q < H.size → ¬ k_A wc q → H1[q]? = H[q]?) → va_P D vwCl (w1 u) H1 → va_S A0 H0 H1 locs1 → W p l e R s m args below meth c H1 locs1 cells slots Q (F0 m (pc + 3) ls rest)) : W p l e R s m args below meth c H locs cells slots Q (F0 m pc ls st0) :=
  va_callv hr hS (fun q _ h => k_Asub hD is hC q h) (k_Asub hD is hC) (fun u t H1 locs1 ht _ hp hB _ hk hS1 => kk u H1 locs1 hp hk (by rw [← ht]; exact hB) hS1)
end KCall
theorem nI_z {a : Nat} (ha : a < 2 ^ 31) : nI a = 0 ↔ a = 0 := nI_eq (b := 0) ha (by decide)
theorem nI_m1 {a : Nat} (ha : a < 2 ^ 31) : ¬ nI a = -1 := fun h => by
  have h1 := congrArg Int32.toInt h
  rw [nI_toInt ha] at h1
  have h2 : (-1 : Int32).toInt = -1 := by decide
  omega
def iz (k : Nat) : Int32 := nI k + (-1)
theorem iz_0 : iz 0 = -1 := by decide
theorem iz_s (k : Nat) : iz (k + 1) = nI k := pk_m1 k
theorem iz_p {m : Nat} (h : 0 < m) : iz m = nI (m - 1) := by
  obtain ⟨k, rfl⟩ : ∃ k, m = k + 1 := ⟨m - 1, by omega⟩
  exact iz_s k
theorem rs_fl {N : Nat} {fl : Int32} (hN : N ≤ 10) (h : fl = -1 ∨ ∃ a, a < N ∧ fl = nI a) (h1 : ¬ fl = -1) (h2 : fl < nI (N - 2)) : tn fl < N - 2 ∧ fl = nI (tn fl) := by
  rcases h with h | ⟨a, ha, rfl⟩
  · exact absurd h h1
  · rw [tn_nI (by omega)]; exact ⟨(nI_ltI (by omega) (by omega)).mp h2, rfl⟩
theorem rs_sl {N : Nat} {sl : Int32} (hN : N ≤ 10) (h : sl = -1 ∨ ∃ a, a < N ∧ sl = nI a) (h1 : ¬ sl = -1) : tn sl < N ∧ sl = nI (tn sl) := by
  rcases h with h | ⟨a, ha, rfl⟩
  · exact absurd h h1
  · rw [tn_nI (by omega)]; exact ⟨ha, rfl⟩
theorem ldL_fl (N S b : Nat) (W P V : Fn) : ∀ n, n ≤ N → ((ldL N S b W P V n).2.1 = -1 ∨ ∃ a, a < N ∧ (ldL N S b W P V n).2.1 = nI a) ∧ ((ldL N S b W P V n).2.2 = -1 ∨ ∃ a, a < N ∧ (ldL N S b W P V n).2.2 = nI a) := by
  intro n
  induction n with
  | zero => intro _; exact ⟨Or.inl rfl, Or.inl rfl⟩
  | succ n ih =>
    intro hn
    obtain ⟨h1, h2⟩ := ih (by omega)
    unfold ldL
    split
    · exact ⟨h1, h2⟩
    · split
      · exact ⟨Or.inr ⟨n, by omega, rfl⟩, h2⟩
      · exact ⟨h1, Or.inr ⟨n, by omega, rfl⟩⟩
theorem k_good {c : Cond} (h : c ∈ lw_g) : GoodIn lw_g (c :: lw_g) := fun w hw => by
  have hm : w ∈ lw_g := (List.mem_cons.mp hw).elim (fun e => by rw [e]; exact h) (fun q => q)
  exact ⟨hm, good_of_word (lw_all w hm)⟩
section KCW
variable {R : Room} {s : State} {args : Array Value} {own C : String} {index : Nat} {y : MethodName} {bytes : ByteArray} {maxL mc ms : Nat} {ret : Option FieldType} {rm : Room}
theorem k_cwV (n : Nat) (ht : ∀ w ∈ lw_g, w.before args s = true) (hc : Cond.code y bytes maxL ret ∈ lw_g) (hini : Cond.initialized y.cls ∈ lw_g) (hl : Cond.methodLink own index y ∈ lw_g) (hi : Cond.instanceMethod y ∈ lw_g) (hsel : Cond.selects C y y ∈ lw_g)
    (hd : y.cls ≠ "java/lang/invoke/MethodHandle" ∧ y.cls ≠ "java/lang/invoke/VarHandle" ∧ (parseMethodDescriptor y.desc).map (fun d => d.parameters.length) = some n) (hrc : rm.cells = mc) (hrs : rm.slots = ms) (hR : rm.frames + 1 ≤ R.frames ∧ 8 + (maxL + 11) + rm.locals ≤ R.locals) : CallW R s args own C index y bytes maxL ret (Cond.code y bytes maxL ret :: lw_g) rm mc ms n :=
  ⟨callB_of n ht (k_good hc) rfl hrc hrs (ht _ hini) (ht _ hl) hd hR, ht _ hi, ht _ hsel⟩
theorem k_cwS (n : Nat) (ht : ∀ w ∈ lw_g, w.before args s = true) (hc : Cond.code y bytes maxL ret ∈ lw_g) (hini : Cond.initialized y.cls ∈ lw_g) (hl : Cond.methodLink own index y ∈ lw_g) (hst : Cond.static y ∈ lw_g)
    (hd : y.cls ≠ "java/lang/invoke/MethodHandle" ∧ y.cls ≠ "java/lang/invoke/VarHandle" ∧ (parseMethodDescriptor y.desc).map (fun d => d.parameters.length) = some n) (hrc : rm.cells = mc) (hrs : rm.slots = ms) (hR : rm.frames + 1 ≤ R.frames ∧ 8 + (maxL + 11) + rm.locals ≤ R.locals) : CallB R s args own index y bytes maxL ret (Cond.code y bytes maxL ret :: lw_g) rm mc ms n ∧ (Cond.static y).before args s = true :=
  ⟨callB_of n ht (k_good hc) rfl hrc hrs (ht _ hini) (ht _ hl) hd hR, ht _ hst⟩
theorem k_cwI (n : Nat) (ht : ∀ w ∈ lw_g, w.before args s = true) (hc : Cond.code y bytes maxL none ∈ lw_g) (hini : Cond.initialized y.cls ∈ lw_g) (hl : Cond.methodLink own index y ∈ lw_g) (hi : Cond.instanceMethod y ∈ lw_g)
    (hd : y.cls ≠ "java/lang/invoke/MethodHandle" ∧ y.cls ≠ "java/lang/invoke/VarHandle" ∧ (parseMethodDescriptor y.desc).map (fun d => d.parameters.length) = some n) (hy1 : y.name = "<init>") (hrc : rm.cells = mc) (hrs : rm.slots = ms) (hR : rm.frames + 1 ≤ R.frames ∧ 8 + (maxL + 11) + rm.locals ≤ R.locals) : CallB R s args own index y bytes maxL none (Cond.code y bytes maxL none :: lw_g) rm mc ms n ∧ y.name = "<init>" ∧ (Cond.instanceMethod y).before args s = true :=
  ⟨callB_of n ht (k_good hc) rfl hrc hrs (ht _ hini) (ht _ hl) hd hR, hy1, ht _ hi⟩
end KCW
theorem k_max {a b : Nat} (ha : a < 2 ^ 31) (hb : b < 2 ^ 31) : (if nI a < nI b then nI b else nI a) = nI (max a b) := by
  by_cases h : a < b
  · rw [if_pos ((nI_ltI ha hb).mpr h), Nat.max_eq_right (by omega)]
  · rw [if_neg (fun z => h ((nI_ltI ha hb).mp z)), Nat.max_eq_left (by omega)]
theorem k_min {a b : Nat} (ha : a < 2 ^ 31) (hb : b < 2 ^ 31) : (if nI b < nI a then nI b else nI a) = nI (min a b) := by
  by_cases h : b < a
  · rw [if_pos ((nI_ltI hb ha).mpr h), Nat.min_eq_right (by omega)]
  · rw [if_neg (fun z => h ((nI_ltI hb ha).mp z)), Nat.min_eq_left (by omega)]
