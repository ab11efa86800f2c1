/-! the cells of the class's objects -/
abbrev wD (cA : ClassId) (hd hw hp N S : Nat) (Wo Po : Fn) : va_W := [(hd, .inr (0, [.int (nI N), .int (nI S), .ref hw, .ref hp])), (hw, .inl (cA, N * S, .inl Wo)), (hp, .inl (cA, N, .inl Po))]
abbrev wS (cA : ClassId) (hs hv N : Nat) (V : Fn) : va_W := [(hs, .inr (2, [.int (nI (N - 2)), .int (nI (N - 2)), .int (nI (N - 1)), .ref hv])), (hv, .inl (cA, N, .inl V))]
abbrev wL (cA : ClassId) (hg hx1 N : Nat) (ls1 lf lc : Int32) (X : Fn) : va_W := [(hg, .inr (1, [.ref hx1, .int ls1, .int lf, .int lc])), (hx1, .inl (cA, N, .inl X))]
abbrev wDS (cA : ClassId) (hd hw hp N S : Nat) (Wo Po : Fn) (hs hv : Nat) (V : Fn) : va_W := [(hd, .inr (0, [.int (nI N), .int (nI S), .ref hw, .ref hp])), (hw, .inl (cA, N * S, .inl Wo)), (hp, .inl (cA, N, .inl Po)), (hs, .inr (2, [.int (nI (N - 2)), .int (nI (N - 2)), .int (nI (N - 1)), .ref hv])), (hv, .inl (cA, N, .inl V))]
abbrev wLS (cA : ClassId) (hg hx1 N : Nat) (ls1 lf lc : Int32) (X : Fn) (hs hv : Nat) (V : Fn) : va_W := [(hg, .inr (1, [.ref hx1, .int ls1, .int lf, .int lc])), (hx1, .inl (cA, N, .inl X)), (hs, .inr (2, [.int (nI (N - 2)), .int (nI (N - 2)), .int (nI (N - 1)), .ref hv])), (hv, .inl (cA, N, .inl V))]
/-! the class's world: eight cells -/
abbrev wC (cA : ClassId) (q : Nat → Nat) (N S : Nat) (z : CS) : va_W := [(q 0, .inr (3, [.int (nI S), .int (nI (N - 2)), .ref (q 1), .ref (q 6), .ref (q 4), .int (cLe z), .int (cDn z), .int (cUn z), .int (cMd z), .int (cRc z), .int (cWc z)])),
  (q 1, .inr (0, [.int (nI N), .int (nI S), .ref (q 2), .ref (q 3)])), (q 2, .inl (cA, N * S, .inl (cW z))), (q 3, .inl (cA, N, .inl (cP z))),
  (q 4, .inr (2, [.int (nI (N - 2)), .int (nI (N - 2)), .int (nI (N - 1)), .ref (q 5)])), (q 5, .inl (cA, N, .inl (cV z))),
  (q 6, .inr (1, [.ref (q 7), .int (cLs z), .int (cLf z), .int (cLc z)])), (q 7, .inl (cA, N, .inl (cX z)))]
theorem k_sT {s : State} {H : Heap} {As : List Value} {A : Nat → Prop} {locs : List Loc} (hT : k_Tb A s s.heap) (hS : va_S A s.heap H locs) : PreS s H (va_Pc As (fun U => k_Tb (fun _ => False) U U.heap)) As :=
  ⟨fun a U g mk q => ⟨q.1, k_Tb_moved (u := U) (U := U.calling g mk a) (Vm.Alike.refl U.vm) q.2⟩, fun U hU hW => ⟨rfl, by show k_Tb (fun _ => False) U U.heap; rw [hU]; exact k_Tb_moved hW.alike (k_Tb_narrow (k_Tb_kept hT hS.2.1) (fun _ h => h.elim))⟩⟩
/-- behind a call that wrote its own cells: the caller's world again, its other cells by their places -/
theorem k_bk {A : Nat → Prop} {D : va_G} {cl : List vw_C} {ws wc w1 ws' : va_W} {H H1 : Heap} (hP : va_P D cl ws H) (hD : va_D A ws) (isC isR : List Nat) (hC : isC.map (fun i => ws[i]?) = wc.map some) (hdis : ∀ i ∈ isR, i ∉ isC)
    (hk : ∀ q : Nat, q < H.size → ¬ k_A wc q → H1[q]? = H[q]?) (hP1 : va_P D cl w1 H1) (is : List Nat) (hs : is.filterMap (fun i => (isR.filterMap (fun j => ws[j]?) ++ w1)[i]?) = ws') : va_P D cl ws' H1 := by
  have at' : ∀ (k : Nat) (q : Nat × va_E), wc[k]? = some q → ∃ i, isC[k]? = some i ∧ ws[i]? = some q := by
    intro k q hq
    have h1 : (isC.map (fun i => ws[i]?))[k]? = some (some q) := by rw [hC, List.getElem?_map, hq]; rfl
    rw [List.getElem?_map] at h1
    cases hi : isC[k]? with
    | none => rw [hi] at h1; cases h1
    | some i => rw [hi] at h1; exact ⟨i, rfl, Option.some.inj h1⟩
  refine va_P.sub (va_P.app (fun k q hq => ?_) hP1) is hs
  obtain ⟨i, h1, h2⟩ := List.mem_filterMap.mp (List.mem_of_getElem? hq)
  refine (hP i q h2).kept (hk q.1 (hP i q h2).lt (fun h => ?_))
  obtain ⟨k2, e, h⟩ := h
  obtain ⟨j, h3, h4⟩ := at' k2 (q.1, e) h
  have hij := hD.1 i j q (q.1, e) h2 h4 rfl
  subst hij
  exact hdis i h1 (List.mem_of_getElem? h3)
