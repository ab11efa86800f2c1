/-! values(s) of the reference, whole, against the class's load -/
def rvp (N b : Nat) (W6 : Fn) : Int32 := W6 (16 * rdk N 8 b + b)
def rvq (N b : Nat) (W6 : Fn) : Int32 := W6 (16 * rdk N 9 b + b)
def rvA (N b : Nat) (W6 Po V : Fn) : Int32 := fgL (rvL N b W6 Po V (N - 2)).1 0 (N - 2) ^^^ rvp N b W6
def rvB (N b : Nat) (W6 Po V : Fn) : Int32 := wsR (rvL N b W6 Po V (N - 2)).1 (N - 2) ^^^ rvq N b W6
def rv2 (N b : Nat) (W6 Po V : Fn) : Fn :=
  if (rvL N b W6 Po V (N - 2)).2.2 < 0 then
    (if (rvL N b W6 Po V (N - 2)).2.1 < 0 then (rvL N b W6 Po V (N - 2)).1
     else upd (rvL N b W6 Po V (N - 2)).1 (tn (rvL N b W6 Po V (N - 2)).2.1) (if nI b < Po (rdk N 8 b) then rvA N b W6 Po V else unO (rvB N b W6 Po V) (tn (rvL N b W6 Po V (N - 2)).2.1) 4))
  else upd (upd (rvL N b W6 Po V (N - 2)).1 (tn (rvL N b W6 Po V (N - 2)).2.1) (slO (tn (rvL N b W6 Po V (N - 2)).2.1) (tn (rvL N b W6 Po V (N - 2)).2.2) (rvA N b W6 Po V) (rvB N b W6 Po V) 4)) (tn (rvL N b W6 Po V (N - 2)).2.2)
    (slO (tn (rvL N b W6 Po V (N - 2)).2.1) (tn (rvL N b W6 Po V (N - 2)).2.2) (rvA N b W6 Po V) (rvB N b W6 Po V) 4 ^^^ rvA N b W6 Po V)
def rv3 (N b : Nat) (W6 Po V : Fn) : Fn := upd (rv2 N b W6 Po V) 8 (if nI b < Po (rdk N 8 b) then rvp N b W6 else fgL (rv2 N b W6 Po V) 0 (N - 2))
def rVal (N b : Nat) (W6 Po V : Fn) : Fn := upd (rv3 N b W6 Po V) 9 (if nI b < Po (rdk N 9 b) then rvq N b W6 else wsR (rv3 N b W6 Po V) (N - 2))
theorem LP_is0 {L : Nat → Prop} {n : Nat} {fl sl : Int32} (h : LPp L n fl sl) (h0 : ∀ a, a < n → ¬ L a) : fl = -1 ∧ sl = -1 := by
  rcases h with ⟨h1, h2, h3⟩ | ⟨x, h1, h2, h3, h4, h5⟩ | ⟨x, y, h1, h2, h4, h5, h6, h7, h8⟩
  · exact ⟨h2, h3⟩
  · exact absurd h2 (h0 x h1)
  · exact absurd h4 (h0 x (by omega))
theorem mF_P (N : Nat) (X : Fn) : mF N X (N - 2) = fgL X 0 (N - 2) := by unfold mF; rw [pk_us, fg_eq, xr_u]
theorem mF_o {N a : Nat} (X : Fn) (h : a ≠ N - 2) : mF N X a = X a := by unfold mF; rw [pk_un h]
theorem mS_Q (N : Nat) (X : Fn) : mS N X (N - 1) = wsA X 0 (N - 2) := by unfold mS; rw [pk_us, sg_eq, xr_u]
theorem mS_o {N a : Nat} (X : Fn) (h : a ≠ N - 1) : mS N X a = X a := by unfold mS; rw [pk_un h]
theorem upd_c {f g : Fn} {k a : Nat} {x y : Int32} (h : f a = g a) (hx : x = y) : upd f k x a = upd g k y a := by
  unfold upd
  rw [h, hx]
section VC
variable {N S b : Nat} {W W6 Po V V6 : Fn}
theorem val_cols (hN4 : 4 ≤ N) (hN : N ≤ 10) (hW : ∀ d, d < N → W (d * S + b) = W6 (16 * d + b)) (h2 : two N b Po) : ∀ a, a < N - 2 → rv2 N b W6 Po V6 a = ldR N S b W Po V a := by
  obtain ⟨l1, l2⟩ := ldL_spec (S := S) (W := W) (V := V) hN h2 N (Nat.le_refl _)
  obtain ⟨r1, r2⟩ := rvL_spec (S := S) (W := W) (W6 := W6) (V := V6) hN4 hN hW h2 (N - 2) (Nat.le_refl _)
  have eA : ∀ (hp : ¬ lost N b Po (N - 2)), rvA N b W6 Po V6 = fg N (ldL N S b W Po V N).1 := by
    intro hp
    have hp' : nI b < Po (dk N (N - 2) b) := Classical.not_not.mp hp
    unfold rvA rvp
    rw [fg_eq, l1 (N - 2) (by omega), rdk_P hN4, ← hW _ (dk_lt (by omega)), Int32.xor_comm]
    unfold base
    rw [if_pos hp']
    congr 1
    exact fgL_c _ (fun a ha => (r1 a ha).trans (l1 a (by omega)).symm)
  have eB : ∀ (hq : ¬ lost N b Po (N - 1)), rvB N b W6 Po V6 = sg N (ldL N S b W Po V N).1 := by
    intro hq
    have hq' : nI b < Po (dk N (N - 1) b) := Classical.not_not.mp hq
    unfold rvB rvq
    rw [sg_eq, l1 (N - 1) (by omega), rdk_Q hN4, ← hW _ (dk_lt (by omega)), Int32.xor_comm, wsR_eq]
    unfold base
    rw [if_pos hq']
    congr 1
    exact wsA_c (fun a ha => (r1 a ha).trans (l1 a (by omega)).symm)
  intro a ha
  have ea : (rvL N b W6 Po V6 (N - 2)).1 a = (ldL N S b W Po V N).1 a := (r1 a ha).trans (l1 a (by omega)).symm
  unfold rv2 ldR
  generalize hF : (ldL N S b W Po V N).2.1 = fl at l2 ⊢
  generalize hG : (ldL N S b W Po V N).2.2 = sl at l2 ⊢
  generalize hf : (rvL N b W6 Po V6 (N - 2)).2.1 = t1 at r2 ⊢
  generalize hg : (rvL N b W6 Po V6 (N - 2)).2.2 = t2 at r2 ⊢
  rcases r2 with ⟨q1, rfl, rfl⟩ | ⟨x, q1, q2, q3, rfl, rfl⟩ | ⟨x, y, q1, q2, q3, q4, q5, rfl, rfl⟩
  · -- no column is lost
    rw [if_pos (by decide), if_pos (by decide), ea]
    unfold rsC
    rcases l2 with ⟨p1, rfl, rfl⟩ | ⟨x, p1, p2, p3, rfl, rfl⟩ | ⟨x, y, p1, p2, p3, p4, p5, rfl, rfl⟩
    · rw [if_pos rfl]
    · have hx : N - 2 ≤ x := by
        rcases Nat.lt_or_ge x (N - 2) with z | z
        · exact absurd p2 (q1 x z)
        · exact z
      rw [if_neg (nI_m1 (by omega)), if_pos (nI_le hx (by omega))]
    · have hx : N - 2 ≤ x := by
        rcases Nat.lt_or_ge x (N - 2) with z | z
        · exact absurd p3 (q1 x z)
        · exact z
      rw [if_neg (nI_m1 (by omega)), if_pos (nI_le hx (by omega))]
  · -- one column
    have tx : tn (nI x) = x := tn_nI (by omega)
    rw [if_pos (by decide), if_neg (nI_pos (by omega)), tx]
    unfold rsC
    rcases l2 with ⟨p1, rfl, rfl⟩ | ⟨x', p1, p2, p3, rfl, rfl⟩ | ⟨x', y', p1, p2, p3, p4, p5, rfl, rfl⟩
    · exact absurd q2 (p1 x (by omega))
    · have hxx : x = x' := p3 x (by omega) q2
      subst hxx
      have hp : ¬ lost N b Po (N - 2) := fun z => by have := p3 (N - 2) (by omega) z; omega
      have hp' : nI b < Po (rdk N 8 b) := by rw [rdk_P hN4]; exact Classical.not_not.mp hp
      rw [if_neg (nI_m1 (by omega)), if_neg (nI_ge (by omega) (by omega)), if_pos rfl, if_pos hp', tx]
      exact upd_c ea (eA hp)
    · have hxx : x = x' := by
        rcases p5 x (by omega) q2 with z | z
        · exact z
        · have := q3 x' (by omega) p3; exact this.symm
      subst hxx
      have hy : N - 2 ≤ y' := by
        rcases Nat.lt_or_ge y' (N - 2) with z | z
        · have := q3 y' z p4; omega
        · exact z
      rw [if_neg (nI_m1 (by omega)), if_neg (nI_ge (by omega) (by omega)), if_neg (nI_m1 (by omega)), tx]
      rcases (show y' = N - 1 ∨ y' = N - 2 by omega) with rfl | rfl
      · have hp : ¬ lost N b Po (N - 2) := fun z => by have := p5 (N - 2) (by omega) z; omega
        have hp' : nI b < Po (rdk N 8 b) := by rw [rdk_P hN4]; exact Classical.not_not.mp hp
        rw [if_pos rfl, if_pos hp']
        exact upd_c ea (eA hp)
      · have hq : ¬ lost N b Po (N - 1) := fun z => by have := p5 (N - 1) (by omega) z; omega
        have hp' : ¬ nI b < Po (rdk N 8 b) := by rw [rdk_P hN4]; exact p4
        rw [if_neg hp', if_neg (show ¬ nI (N - 2) = nI (N - 1) from fun z => by have := (nI_eq (by omega) (by omega)).mp z; omega), if_pos rfl, unO_eq]
        exact upd_c ea (by rw [eB hq])
  · -- two columns
    have tx : tn (nI x) = x := tn_nI (by omega)
    have ty : tn (nI y) = y := tn_nI (by omega)
    have hx2 : ∀ z, z < N → lost N b Po z → z = x ∨ z = y := by
      intro z hz lz
      rcases Nat.lt_or_ge z (N - 2) with w | w
      · exact q5 z w lz
      · exact (h2 x y z q1 (by omega) hz q3 q4 lz).elim
    have hfs : fl = nI x ∧ sl = nI y := by
      rcases l2 with ⟨p1, p2, p3⟩ | ⟨x', p1, p2, p3, p4, p5⟩ | ⟨x', y', p1, p2, p3, p4, p5, p6, p7⟩
      · exact absurd q3 (p1 x (by omega))
      · have e1 := p3 x (by omega) q3
        have e2 := p3 y (by omega) q4
        omega
      · have e1 := hx2 x' (by omega) p3
        have e2 := hx2 y' (by omega) p4
        have e3 : x' = x ∧ y' = y := by omega
        rw [e3.1] at p6
        rw [e3.2] at p7
        exact ⟨p6, p7⟩
    obtain ⟨rfl, rfl⟩ := hfs
    have hp : ¬ lost N b Po (N - 2) := fun z => by have := hx2 (N - 2) (by omega) z; omega
    have hq : ¬ lost N b Po (N - 1) := fun z => by have := hx2 (N - 1) (by omega) z; omega
    have hd : ((nI y - nI x) &&& 7).toNatClampNeg = y - x := by
      rw [pk_sub (by omega), pk_andN (m := 7) (by omega) 3 (by decide), nI_clamp (by omega), Nat.mod_eq_of_lt (by omega)]
    rw [if_neg (nI_pos (by omega)), tx, ty]
    unfold rsC rsY
    rw [if_neg (nI_m1 (by omega)), if_neg (nI_ge (by omega) (by omega)), if_neg (nI_m1 (by omega)), if_neg (fun z => by have := (nI_eq (by omega) (by omega)).mp z; omega), if_neg (fun z => by have := (nI_eq (by omega) (by omega)).mp z; omega), tx, ty, hd, eA hp, eB hq]
    generalize fg N (ldL N S b W Po V N).1 = p
    generalize sg N (ldL N S b W Po V N).1 = q
    have hX : dblN x (p ^^^ dv1 (y - x) (p ^^^ hlvN x q)) ^^^ dblN y ((p ^^^ dv1 (y - x) (p ^^^ hlvN x q)) ^^^ p) = q := by
      have e1 : (p ^^^ dv1 (y - x) (p ^^^ hlvN x q)) ^^^ p = dv1 (y - x) (p ^^^ hlvN x q) := by rw [Int32.xor_comm, xr_u]
      have hY := dv1_r (j := y - x) (by omega) (by omega) (p ^^^ hlvN x q)
      rw [e1]
      generalize dv1 (y - x) (p ^^^ hlvN x q) = Y at hY ⊢
      have e3 : dblN y Y = dblN x (dblN (y - x) Y) := by rw [← dblN_plus]; congr 1; omega
      rw [e3, ← dblN_add x, Int32.xor_assoc, hY, xr_u, dblN_hlvN]
    rw [slO_eq q1 (by omega) hX]
    have e2 : (p ^^^ dv1 (y - x) (p ^^^ hlvN x q)) ^^^ p = dv1 (y - x) (p ^^^ hlvN x q) := by rw [Int32.xor_comm, xr_u]
    rw [e2]
    exact upd_c (upd_c ea rfl) rfl
theorem LP_hit {L : Nat → Prop} {n : Nat} {fl sl : Int32} (h : LPp L n fl sl) (hb : n < 2 ^ 31) {z : Nat} (hz : z < n) : L z ↔ (fl = nI z ∨ sl = nI z) := by
  have no : ∀ w : Int32, w = -1 → ¬ w = nI z := fun w hw q => nI_m1 (show z < 2 ^ 31 by omega) (q.symm.trans hw)
  rcases h with ⟨h1, h2, h3⟩ | ⟨x, h1, h2, h3, h4, h5⟩ | ⟨x, y, h1, h2, h4, h5, h6, h7, h8⟩
  · exact ⟨fun q => absurd q (h1 z hz), fun q => q.elim (fun q => absurd q (no _ h2)) (fun q => absurd q (no _ h3))⟩
  · refine ⟨fun q => Or.inl (by rw [h3 z hz q]; exact h4), fun q => q.elim (fun q => ?_) (fun q => absurd q (no _ h5))⟩
    have e := (nI_eq (by omega) (by omega)).mp (h4.symm.trans q)
    rw [← e]; exact h2
  · refine ⟨fun q => (h6 z hz q).elim (fun e => Or.inl (by rw [e]; exact h7)) (fun e => Or.inr (by rw [e]; exact h8)), fun q => q.elim (fun q => ?_) (fun q => ?_)⟩
    · have e := (nI_eq (by omega) (by omega)).mp (h7.symm.trans q)
      rw [← e]; exact h4
    · have e := (nI_eq (by omega) (by omega)).mp (h8.symm.trans q)
      rw [← e]; exact h5
theorem rsC_hi {L : Nat → Prop} {fl sl : Int32} {a : Nat} {V : Fn} (hN4 : 4 ≤ N) (hN : N ≤ 10) (h : LPp L N fl sl) (ha : N - 2 ≤ a) : rsC N V fl sl a = V a := by
  have hx : fl = -1 ∨ nI (N - 2) ≤ fl ∨ ∃ x, x < N - 2 ∧ fl = nI x := by
    have q : ∀ x, x < N → fl = nI x → fl = -1 ∨ nI (N - 2) ≤ fl ∨ ∃ x, x < N - 2 ∧ fl = nI x := fun x hx e => by
      rcases Nat.lt_or_ge x (N - 2) with z | z
      · exact Or.inr (Or.inr ⟨x, z, e⟩)
      · rw [e]; exact Or.inr (Or.inl (nI_le z (by omega)))
    rcases h with ⟨h1, h2, h3⟩ | ⟨x, h1, h2, h3, h4, h5⟩ | ⟨x, y, h1, h2, h4, h5, h6, h7, h8⟩
    · exact Or.inl h2
    · exact q x h1 h4
    · exact q x (by omega) h7
  have hy : sl = -1 ∨ ∃ y, y < N ∧ sl = nI y := by
    rcases h with ⟨h1, h2, h3⟩ | ⟨x, h1, h2, h3, h4, h5⟩ | ⟨x, y, h1, h2, h4, h5, h6, h7, h8⟩
    · exact Or.inl h3
    · exact Or.inl h5
    · exact Or.inr ⟨y, h2, h8⟩
  unfold rsC
  by_cases c1 : fl = -1
  · rw [if_pos c1]
  rw [if_neg c1]
  by_cases c2 : nI (N - 2) ≤ fl
  · rw [if_pos c2]
  rw [if_neg c2]
  obtain ⟨x, hx1, rfl⟩ : ∃ x, x < N - 2 ∧ fl = nI x := by
    rcases hx with z | z | z
    · exact absurd z c1
    · exact absurd z c2
    · exact z
  have tx : tn (nI x) = x := tn_nI (by omega)
  rw [tx]
  by_cases c3 : sl = -1
  · rw [if_pos c3, pk_un (by omega)]
  rw [if_neg c3]
  by_cases c4 : sl = nI (N - 1)
  · rw [if_pos c4, pk_un (by omega)]
  rw [if_neg c4]
  by_cases c5 : sl = nI (N - 2)
  · rw [if_pos c5, pk_un (by omega)]
  rw [if_neg c5]
  obtain ⟨y, hy1, rfl⟩ : ∃ y, y < N ∧ sl = nI y := hy.resolve_left c3
  have ty : tn (nI y) = y := tn_nI (by omega)
  have n1 : y ≠ N - 1 := fun e => c4 (by rw [e])
  have n2 : y ≠ N - 2 := fun e => c5 (by rw [e])
  rw [ty, pk_un (by omega), pk_un (by omega)]
/-- values(s) and load: the same values -/
theorem val_eq (hN4 : 4 ≤ N) (hN : N ≤ 10) (hW : ∀ d, d < N → W (d * S + b) = W6 (16 * d + b)) (h2 : two N b Po) : (∀ a, a < N - 2 → rVal N b W6 Po V6 a = ldV N S b W Po V a) ∧ rVal N b W6 Po V6 8 = ldV N S b W Po V (N - 2) ∧ rVal N b W6 Po V6 9 = ldV N S b W Po V (N - 1) := by
  have hc := val_cols (V := V) (V6 := V6) hN4 hN hW h2
  obtain ⟨l1, l2⟩ := ldL_spec (S := S) (W := W) (V := V) hN h2 N (Nat.le_refl _)
  have hitP := LP_hit l2 (by omega) (z := N - 2) (by omega)
  have hitQ := LP_hit l2 (by omega) (z := N - 1) (by omega)
  have eP : ldP N S b W Po V = if nI b < Po (dk N (N - 2) b) then ldR N S b W Po V else mF N (ldR N S b W Po V) := by
    unfold ldP
    by_cases c : nI b < Po (dk N (N - 2) b)
    · have hn := fun q => (hitP.mpr q) c
      rw [if_pos c, if_neg (fun q => hn (Or.inl q)), if_neg (fun q => hn (Or.inr q))]
    · rw [if_neg c]
      rcases hitP.mp c with q | q
      · rw [if_pos q]
      · by_cases q0 : (ldL N S b W Po V N).2.1 = nI (N - 2)
        · rw [if_pos q0]
        · rw [if_neg q0, if_pos q]
  have eQ : ldV N S b W Po V = if nI b < Po (dk N (N - 1) b) then ldP N S b W Po V else mS N (ldP N S b W Po V) := by
    unfold ldV
    by_cases c : nI b < Po (dk N (N - 1) b)
    · have hn := fun q => (hitQ.mpr q) c
      rw [if_pos c, if_neg (fun q => hn (Or.inl q)), if_neg (fun q => hn (Or.inr q))]
    · rw [if_neg c]
      rcases hitQ.mp c with q | q
      · rw [if_pos q]
      · by_cases q0 : (ldL N S b W Po V N).2.1 = nI (N - 1)
        · rw [if_pos q0]
        · rw [if_neg q0, if_pos q]
  have cP : ∀ a, a ≠ N - 2 → ldP N S b W Po V a = ldR N S b W Po V a := fun a ha => by
    rw [eP]
    split
    · rfl
    · exact mF_o _ ha
  have cQ : ∀ a, a ≠ N - 1 → ldV N S b W Po V a = ldP N S b W Po V a := fun a ha => by
    rw [eQ]
    split
    · rfl
    · exact mS_o _ ha
  have c3 : ∀ a, a < N - 2 → rv3 N b W6 Po V6 a = ldR N S b W Po V a := fun a ha => by
    unfold rv3
    rw [pk_un (by omega)]
    exact hc a ha
  have hi : ∀ a, N - 2 ≤ a → a < N → nI b < Po (dk N a b) → ldR N S b W Po V a = W6 (16 * dk N a b + b) := fun a ha han hav => by
    unfold ldR
    rw [rsC_hi hN4 hN l2 ha, l1 a han]
    unfold base
    rw [if_pos hav, hW _ (dk_lt (by omega))]
  refine ⟨fun a ha => ?_, ?_, ?_⟩
  · rw [cQ a (by omega), cP a (by omega)]
    unfold rVal
    rw [pk_un (by omega)]
    exact c3 a ha
  · rw [cQ _ (by omega)]
    unfold rVal
    rw [pk_un (by omega)]
    unfold rv3
    rw [pk_us, rdk_P hN4, eP]
    by_cases c : nI b < Po (dk N (N - 2) b)
    · rw [if_pos c, if_pos c, hi _ (by omega) (by omega) c]
      unfold rvp
      rw [rdk_P hN4]
    · rw [if_neg c, if_neg c, mF_P]
      exact fgL_c _ hc
  · unfold rVal
    rw [pk_us, rdk_Q hN4, eQ]
    by_cases c : nI b < Po (dk N (N - 1) b)
    · rw [if_pos c, if_pos c, cP _ (by omega), hi _ (by omega) (by omega) c]
      unfold rvq
      rw [rdk_Q hN4]
    · rw [if_neg c, if_neg c, mS_Q, wsR_eq]
      exact wsA_c (fun a ha => (c3 a ha).trans (cP a (by omega)).symm)
end VC
