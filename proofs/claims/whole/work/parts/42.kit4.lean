abbrev wM (cA : ClassId) (q : Nat → Nat) (N S : Nat) (z : RS) : va_W := [(q 0, .inr (4, [.int (nI N), .int (nI S), .int (rLe z), .int (rDn z), .int (rAr z), .int (rUn z), .int (rMd z), .int (rRc z), .int (rWc z), .ref (q 1), .ref (q 2), .ref (q 3), .ref (q 4), .int (rLs z), .int (rLf z), .int (rLt z)])),
  (q 1, .inl (cA, 160, .inl (rW z))), (q 2, .inl (cA, 10, .inl (rP z))), (q 3, .inl (cA, 10, .inl (rV z))), (q 4, .inl (cA, 10, .inl (rE z)))]

section WMRows
variable {D : va_G} {cA : ClassId} {q : Nat → Nat} {N S : Nat} {z : RS} {H : Heap} {Y : Fn}
theorem wM_tW (h : va_P D vwCl ((wM cA q N S z).set 1 (q 1, .inl (cA, 160, .inl Y))) H) : va_P D vwCl (wM cA q N S (tW z Y)) H := h
theorem wM_tP (h : va_P D vwCl ((wM cA q N S z).set 2 (q 2, .inl (cA, 10, .inl Y))) H) : va_P D vwCl (wM cA q N S (tP z Y)) H := h
theorem wM_tV (h : va_P D vwCl ((wM cA q N S z).set 3 (q 3, .inl (cA, 10, .inl Y))) H) : va_P D vwCl (wM cA q N S (tV z Y)) H := h
theorem wM_tE (h : va_P D vwCl ((wM cA q N S z).set 4 (q 4, .inl (cA, 10, .inl Y))) H) : va_P D vwCl (wM cA q N S (tE z Y)) H := h
theorem wM_D {A : Nat → Prop} {z1 z2 : RS} (h : va_D A (wM cA q N S z1)) : va_D A (wM cA q N S z2) := k_D h rfl
end WMRows
theorem tW_tW (r : RS) (x y : Fn) : tW (tW r x) y = tW r y := rfl
theorem tP_tP (r : RS) (x y : Fn) : tP (tP r x) y = tP r y := rfl
theorem tV_tV (r : RS) (x y : Fn) : tV (tV r x) y = tV r y := rfl
theorem tE_tE (r : RS) (x y : Fn) : tE (tE r x) y = tE r y := rfl
theorem tLe_tLe (r : RS) (x y : Int32) : tLe (tLe r x) y = tLe r y := rfl
theorem tDn_tDn (r : RS) (x y : Int32) : tDn (tDn r x) y = tDn r y := rfl
theorem tAr_tAr (r : RS) (x y : Int32) : tAr (tAr r x) y = tAr r y := rfl
theorem tUn_tUn (r : RS) (x y : Int32) : tUn (tUn r x) y = tUn r y := rfl
theorem tMd_tMd (r : RS) (x y : Int32) : tMd (tMd r x) y = tMd r y := rfl
theorem tRc_tRc (r : RS) (x y : Int32) : tRc (tRc r x) y = tRc r y := rfl
theorem tWc_tWc (r : RS) (x y : Int32) : tWc (tWc r x) y = tWc r y := rfl
theorem tLs_tLs (r : RS) (x y : Int32) : tLs (tLs r x) y = tLs r y := rfl
theorem tLf_tLf (r : RS) (x y : Int32) : tLf (tLf r x) y = tLf r y := rfl
theorem tLt_tLt (r : RS) (x y : Int32) : tLt (tLt r x) y = tLt r y := rfl
/-! rows for the reference's walks -/
theorem rRV_n2 {N b : Nat} {r : RS} {X : Int32} : rRV N b (tRc r X) = tV (tRc r X) (rVal N b (rW r) (rP r) (rV r)) := rfl
theorem rRA_n {N b : Nat} {r : RS} : rRA N b r = tV (tRc r (rRc r + nI (cntA (rP r) (nI b) N))) (rVal N b (rW r) (rP r) (rV r)) := rfl
section RvRows
variable {N b i : Nat} {W6 Po V : Fn}
theorem rvL_a (h : nI b < Po (rdk N i b)) : rvL N b W6 Po V (i + 1) = (upd (rvL N b W6 Po V i).1 i (W6 (16 * rdk N i b + b)), (rvL N b W6 Po V i).2.1, (rvL N b W6 Po V i).2.2) := if_pos h
theorem rvL_b (h : ¬ nI b < Po (rdk N i b)) (h2 : (rvL N b W6 Po V i).2.1 < 0) : rvL N b W6 Po V (i + 1) = (upd (rvL N b W6 Po V i).1 i 0, nI i, (rvL N b W6 Po V i).2.2) := (if_neg h).trans (if_pos h2)
theorem rvL_c (h : ¬ nI b < Po (rdk N i b)) (h2 : ¬ (rvL N b W6 Po V i).2.1 < 0) : rvL N b W6 Po V (i + 1) = (upd (rvL N b W6 Po V i).1 i 0, (rvL N b W6 Po V i).2.1, nI i) := (if_neg h).trans (if_neg h2)
theorem rvL_ix (hN : N ≤ 10) : ∀ n, n ≤ N → ((rvL N b W6 Po V n).2.1 = -1 ∨ ∃ a, a < n ∧ (rvL N b W6 Po V n).2.1 = nI a) ∧ ((rvL N b W6 Po V n).2.2 = -1 ∨ ∃ a, a < n ∧ (rvL N b W6 Po V n).2.2 = nI a) ∧ ((rvL N b W6 Po V n).2.1 = -1 → (rvL N b W6 Po V n).2.2 = -1) := by
  intro n
  induction n with
  | zero => intro _; exact ⟨Or.inl rfl, Or.inl rfl, fun _ => rfl⟩
  | succ n ih =>
    intro hn
    obtain ⟨h1, h2, h3⟩ := ih (by omega)
    have up : ∀ {x : Int32}, (x = -1 ∨ ∃ a, a < n ∧ x = nI a) → (x = -1 ∨ ∃ a, a < n + 1 ∧ x = nI a) := fun h => h.elim Or.inl (fun ⟨a, ha, e⟩ => Or.inr ⟨a, by omega, e⟩)
    by_cases q : nI b < Po (rdk N n b)
    · rw [rvL_a q]; exact ⟨up h1, up h2, h3⟩
    · by_cases q2 : (rvL N b W6 Po V n).2.1 < 0
      · have e1 : (rvL N b W6 Po V n).2.1 = -1 := by
          rcases h1 with z | ⟨a, ha, z⟩
          · exact z
          · rw [z] at q2
            exact absurd q2 (nI_pos (by omega))
        rw [rvL_b q q2]
        exact ⟨Or.inr ⟨n, by omega, rfl⟩, up h2, fun e => absurd e (nI_m1 (by omega))⟩
      · rw [rvL_c q q2]
        exact ⟨up h1, Or.inr ⟨n, by omega, rfl⟩, fun e => absurd e (fun e => q2 (by rw [e]; decide))⟩
theorem rv_one (hN : N ≤ 10) (h : ¬ (rvL N b W6 Po V (N - 2)).2.1 < 0) : tn (rvL N b W6 Po V (N - 2)).2.1 < N - 2 ∧ (rvL N b W6 Po V (N - 2)).2.1 = nI (tn (rvL N b W6 Po V (N - 2)).2.1) := by
  rcases (rvL_ix (W6 := W6) (Po := Po) (V := V) (b := b) hN (N - 2) (by omega)).1 with z | ⟨a, ha, z⟩
  · rw [z] at h; exact absurd (by decide) h
  · rw [z, tn_nI (by omega)]; exact ⟨ha, rfl⟩
theorem rv_two (hN : N ≤ 10) (h : ¬ (rvL N b W6 Po V (N - 2)).2.2 < 0) : (tn (rvL N b W6 Po V (N - 2)).2.1 < N - 2 ∧ (rvL N b W6 Po V (N - 2)).2.1 = nI (tn (rvL N b W6 Po V (N - 2)).2.1)) ∧ tn (rvL N b W6 Po V (N - 2)).2.2 < N - 2 ∧ (rvL N b W6 Po V (N - 2)).2.2 = nI (tn (rvL N b W6 Po V (N - 2)).2.2) := by
  obtain ⟨h1, h2, h3⟩ := rvL_ix (W6 := W6) (Po := Po) (V := V) (b := b) hN (N - 2) (by omega)
  rcases h2 with z | ⟨a, ha, z⟩
  · rw [z] at h; exact absurd (by decide) h
  · refine ⟨?_, by rw [z, tn_nI (by omega)]; exact ⟨ha, rfl⟩⟩
    rcases h1 with y | ⟨c, hc, y⟩
    · exact absurd ((h3 y).symm.trans z).symm (nI_m1 (by omega))
    · rw [y, tn_nI (by omega)]; exact ⟨hc, rfl⟩
end RvRows
theorem lgr_st (N a b : Nat) (w : Int32) (r : RS) : lgr (rSt N a b w r).2 = lgr r := by
  unfold rSt
  split
  · split
    · exact lgr_act r
    · exact lgr_act r
  · rfl
theorem lgr_ls {r r' : RS} (h : lgr r' = lgr r) : rLs r' = rLs r ∧ rLf r' = rLf r ∧ rLt r' = rLt r ∧ rE r' = rE r ∧ rP r' = rP r ∧ rV r' = rV r := by
  simp only [lgr, Prod.mk.injEq] at h
  exact h
theorem rApL_t {N b e k i : Nat} {r : RS} (hi : i + (k + 1) = e) (h : (rSt N i b (rE r i) r).1 = false) : rApL N b e (k + 1) r = (false, (rSt N i b (rE r i) r).2) := by
  obtain rfl : e - (k + 1) = i := by omega
  exact if_pos h
theorem rApL_f {N b e k i : Nat} {r : RS} (hi : i + (k + 1) = e) (h : (rSt N i b (rE r i) r).1 = true) : rApL N b e (k + 1) r = rApL N b e k (rSt N i b (rE r i) r).2 := by
  obtain rfl : e - (k + 1) = i := by omega
  exact if_neg (by rw [h]; decide)
theorem rActs_t {k : Nat} {r : RS} (h : (rAct r).1 = false) : rActs (k + 1) r = (false, (rAct r).2) := if_pos h
theorem rActs_f {k : Nat} {r : RS} (h : (rAct r).1 = true) : rActs (k + 1) r = rActs k (rAct r).2 := if_neg (by rw [h]; decide)
theorem rnx_st {P : Fn} {S N k : Nat} (hk : k + 1 ≤ N) : rnx P S N (N - k) = if (0 ≤ P k ∧ P k < nI S) ∧ (rnx P S N (N - (k + 1)) < 0 ∨ P k ≤ P (tn (rnx P S N (N - (k + 1))))) then nI k else rnx P S N (N - (k + 1)) := by
  have e1 : N - k = (N - (k + 1)) + 1 := by omega
  have e2 : N - 1 - (N - (k + 1)) = k := by omega
  rw [e1]
  show (if (0 ≤ P (N - 1 - (N - (k + 1))) ∧ P (N - 1 - (N - (k + 1))) < nI S) ∧ (rnx P S N (N - (k + 1)) < 0 ∨ P (N - 1 - (N - (k + 1))) ≤ P (tn (rnx P S N (N - (k + 1))))) then nI (N - 1 - (N - (k + 1))) else rnx P S N (N - (k + 1))) = _
  rw [e2]
theorem rnx_tn {P : Fn} {S N j : Nat} (hN : N ≤ 10) (hj : j ≤ N) (h : ¬ rnx P S N j < 0) : tn (rnx P S N j) < N ∧ rnx P S N j = nI (tn (rnx P S N j)) := by
  rcases rnx_AM (P := P) (S := S) hN j hj with ⟨-, g2⟩ | ⟨x, -, g2, -, g4, -⟩
  · rw [g2] at h; exact absurd (by decide) h
  · rw [g4, tn_nI (by omega)]; exact ⟨g2, rfl⟩
theorem rb_rx {N S : Nat} {P : Fn} (hN : N ≤ 10) (hS : S ≤ 16) (hP : RPos N S P) (h : ¬ rnx P S N N < 0) : tn (rnx P S N N) < N ∧ rnx P S N N = nI (tn (rnx P S N N)) ∧ tn (P (tn (rnx P S N N))) < S ∧ P (tn (rnx P S N N)) = nI (tn (P (tn (rnx P S N N)))) := by
  rw [← nx_eq hS hN hP] at h ⊢
  exact rb_nx hN hS hP (fun e => h (by rw [e]; decide))
theorem rf_tn {p q d : Int32} (hd : d = -1 ∨ d = 8 ∨ d = 9) : ∀ n, n ≤ 8 → ¬ rfL p q n d < 0 → tn (rfL p q n d) < 10 ∧ rfL p q n d = nI (tn (rfL p q n d)) := by
  have key : ∀ n, n ≤ 8 → rfL p q n d = -1 ∨ ∃ a, a < 10 ∧ rfL p q n d = nI a := by
    intro n
    induction n with
    | zero =>
      intro _
      rcases hd with h | h | h
      · exact Or.inl h
      · exact Or.inr ⟨8, by decide, h⟩
      · exact Or.inr ⟨9, by decide, h⟩
    | succ n ih =>
      intro hn
      show (if rfL p q n d < 0 then (if tmL p n 4 = q then nI n else -1) else rfL p q n d) = -1 ∨ ∃ a, a < 10 ∧ (if rfL p q n d < 0 then (if tmL p n 4 = q then nI n else -1) else rfL p q n d) = nI a
      split
      · split
        · exact Or.inr ⟨n, by omega, rfl⟩
        · exact Or.inl rfl
      · exact ih (by omega)
  intro n hn h
  rcases key n hn with z | ⟨a, ha, z⟩
  · rw [z] at h; exact absurd (by decide) h
  · rw [z, tn_nI (by omega)]; exact ⟨ha, rfl⟩
theorem rfL_stop {p q d : Int32} {i n : Nat} (h : ¬ rfL p q i d < 0) (hn : i ≤ n) : rfL p q n d = rfL p q i d := by
  induction n with
  | zero => have : i = 0 := by omega
            subst this; rfl
  | succ n ih =>
    rcases Nat.lt_or_ge n i with z | z
    · have : i = n + 1 := by omega
      subst this; rfl
    · have e := ih z
      show (if rfL p q n d < 0 then _ else rfL p q n d) = _
      rw [e, if_neg h]
section RunRows
variable {N S b n k s : Nat} {v : Int32} {r : RS}
theorem rRunL_n (h : ¬ nI (b - s * (N - 2)) < rLst N b n s) : rRunL N S b n v (k + 1) s r = rRunL N S b n v k (s + 1) r := if_neg h
theorem rRunL_t (h : nI (b - s * (N - 2)) < rLst N b n s) (h2 : (rWS N s (b - s * (N - 2)) (tn (rLst N b n s)) (v + nI (s * (N - 2) + (b - s * (N - 2)) - b)) r).1 = false) : rRunL N S b n v (k + 1) s r = (false, (rWS N s (b - s * (N - 2)) (tn (rLst N b n s)) (v + nI (s * (N - 2) + (b - s * (N - 2)) - b)) r).2) := (if_pos h).trans (if_pos h2)
theorem rRunL_f (h : nI (b - s * (N - 2)) < rLst N b n s) (h2 : (rWS N s (b - s * (N - 2)) (tn (rLst N b n s)) (v + nI (s * (N - 2) + (b - s * (N - 2)) - b)) r).1 = true) : rRunL N S b n v (k + 1) s r = rRunL N S b n v k (s + 1) (rWS N s (b - s * (N - 2)) (tn (rLst N b n s)) (v + nI (s * (N - 2) + (b - s * (N - 2)) - b)) r).2 := (if_pos h).trans (if_neg (by rw [h2]; decide))
theorem rl_tn (hN4 : 4 ≤ N) (hN : N ≤ 10) (hb : b + n < 2 ^ 20) (hs : s * (N - 2) < 2 ^ 20) (h : nI (b - s * (N - 2)) < rLst N b n s) : tn (rLst N b n s) ≤ N - 2 ∧ b - s * (N - 2) ≤ tn (rLst N b n s) ∧ rLst N b n s = nI (tn (rLst N b n s)) := by
  rcases Nat.lt_or_ge (b + n) (s * (N - 2)) with q | q
  · have e : rLst N b n s = nI (b + n) - nI (s * (N - 2)) := by unfold rLst; rw [if_pos (by omega)]
    have h3 : nI (b + n) - nI (s * (N - 2)) < 0 := pk_sneg (by omega) q
    rw [e] at h
    exact absurd (Int32.lt_trans h h3) (nI_pos (by omega))
  · rw [rLst_small hN4 hN hb hs q] at h ⊢
    rw [tn_nI (by omega)]
    have := (nI_ltI (by omega) (by omega)).mp h
    exact ⟨by omega, by omega, rfl⟩
end RunRows
section W1Rows
variable {N b f e : Nat} {v : Int32} {r : RS}
theorem rW1_t (h : cntA (rP r) (nI b) N = N ∧ e - f + 2 < N - 2 - (e - f)) : rW1 N b f e v r = tE (tV (tRc r (rRc r + nI (rRcW N b f e r))) (rwL f v (rVal N b (rW r) (rP r) (rV r)) (rE r) (rVal N b (rW r) (rP r) (rV r) 8) (rVal N b (rW r) (rP r) (rV r) 9) (e - f)).1) (upd (upd (rwL f v (rVal N b (rW r) (rP r) (rV r)) (rE r) (rVal N b (rW r) (rP r) (rV r) 8) (rVal N b (rW r) (rP r) (rV r) 9) (e - f)).2.1 8 (rwL f v (rVal N b (rW r) (rP r) (rV r)) (rE r) (rVal N b (rW r) (rP r) (rV r) 8) (rVal N b (rW r) (rP r) (rV r) 9) (e - f)).2.2.1) 9 (rwL f v (rVal N b (rW r) (rP r) (rV r)) (rE r) (rVal N b (rW r) (rP r) (rV r) 8) (rVal N b (rW r) (rP r) (rV r) 9) (e - f)).2.2.2) := by
  unfold rW1 rWE
  rw [if_pos h]
  rfl
theorem rW1_f (h : ¬ (cntA (rP r) (nI b) N = N ∧ e - f + 2 < N - 2 - (e - f))) : rW1 N b f e v r = tE (tV (tRc r (rRc r + nI (rRcW N b f e r))) (rwL f v (rVal N b (rW r) (rP r) (rV r)) (rE r) (rVal N b (rW r) (rP r) (rV r) 8) (rVal N b (rW r) (rP r) (rV r) 9) (e - f)).1) (upd (upd (rwL f v (rVal N b (rW r) (rP r) (rV r)) (rE r) (rVal N b (rW r) (rP r) (rV r) 8) (rVal N b (rW r) (rP r) (rV r) 9) (e - f)).2.1 8 (fgL (rwL f v (rVal N b (rW r) (rP r) (rV r)) (rE r) (rVal N b (rW r) (rP r) (rV r) 8) (rVal N b (rW r) (rP r) (rV r) 9) (e - f)).1 0 (N - 2))) 9 (wsR (rwL f v (rVal N b (rW r) (rP r) (rV r)) (rE r) (rVal N b (rW r) (rP r) (rV r) 8) (rVal N b (rW r) (rP r) (rV r) 9) (e - f)).1 (N - 2))) := by
  unfold rW1 rWE
  rw [if_neg h]
  rfl
end W1Rows
theorem rs_lg {N S : Nat} {z : RS} (hN : N ≤ 10) (hS : S ≤ 16) (h : rLs z = -1 ∨ ∃ b f e, b < S ∧ f ≤ e ∧ e ≤ N - 2 ∧ rLs z = nI b ∧ rLf z = nI f ∧ rLt z = nI e) (h1 : ¬ rLs z < 0) : tn (rLs z) < S ∧ tn (rLf z) ≤ tn (rLt z) ∧ tn (rLt z) ≤ N - 2 ∧ rLs z = nI (tn (rLs z)) ∧ rLf z = nI (tn (rLf z)) ∧ rLt z = nI (tn (rLt z)) := by
  rcases h with h | ⟨b, f, e, hb, hf, he, e1, e2, e3⟩
  · rw [h] at h1; exact absurd (by decide) h1
  · rw [e1, e2, e3, tn_nI (by omega), tn_nI (by omega), tn_nI (by omega)]
    exact ⟨hb, hf, he, rfl, rfl, rfl⟩
theorem rwL_s {f k : Nat} {v : Int32} {V E : Fn} {p q : Int32} : rwL f v V E p q (k + 1) = (upd (rwL f v V E p q k).1 (f + k) (v + nI k), upd (rwL f v V E p q k).2.1 (f + k) (v + nI k), (rwL f v V E p q k).2.2.1 ^^^ ((rwL f v V E p q k).1 (f + k) ^^^ (v + nI k)), (rwL f v V E p q k).2.2.2 ^^^ tmL ((rwL f v V E p q k).1 (f + k) ^^^ (v + nI k)) (f + k) 4) := rfl
theorem rwL_0 {f : Nat} {v : Int32} {V E : Fn} {p q : Int32} : rwL f v V E p q 0 = (V, E, p, q) := rfl
theorem tE_e {z : RS} {R : Int32} {X : Fn} : tE (tV (tRc z R) X) (rE z) = tV (tRc z R) X := rfl
theorem tE_VE {r : RS} {A B C E : Fn} : tE (tV (tE (tV r A) B) C) E = tE (tV r C) E := rfl
def dI (p q : Int32) : Int32 := if p = 0 then 9 else if q = 0 then 8 else -1
theorem dI_ok (p q : Int32) : dI p q = -1 ∨ dI p q = 8 ∨ dI p q = 9 := by
  unfold dI
  by_cases h : p = 0
  · rw [if_pos h]; exact Or.inr (Or.inr rfl)
  · rw [if_neg h]
    by_cases h2 : q = 0
    · rw [if_pos h2]; exact Or.inr (Or.inl rfl)
    · rw [if_neg h2]; exact Or.inl rfl
theorem rsf_n {N : Nat} {V : Fn} : rsf N V = rfL (rgP N V) (rgQ N V) (N - 2) (dI (rgP N V) (rgQ N V)) := rfl
