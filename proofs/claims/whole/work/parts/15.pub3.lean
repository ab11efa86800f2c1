/-! scrub, faults, restart, and the small ones -/
-- scrub
def cSc2 (N S b a : Nat) (c : CS) : Int32 × CS := if (cWr S (dk N a b) b (mend N (cV c) a) c).1 = false then (-4, (cWr S (dk N a b) b (mend N (cV c) a) c).2) else (nI (1 + dk N a b), (cWr S (dk N a b) b (mend N (cV c) a) c).2)
def cSc1 (N S b : Nat) (c : CS) : Int32 × CS := if fg N (cV c) = 0 ∧ sg N (cV c) = 0 then (0, c) else if saf N (cV c) = -1 then (-7, c) else cSc2 N S b (tn (saf N (cV c))) c
def cSc (N S : Nat) (x : Int32) (c : CS) : Int32 × CS := if ¬ x < 0 ∧ ¬ nI S ≤ x then (if cRef N S c = 0 then (if cntA (cP c) x N = N then cSc1 N S (tn x) (cRA N S (tn x) c) else (-6, c)) else (cRef N S c, c)) else (-1, c)
def rfL (p q : Int32) : Nat → Int32 → Int32
  | 0, d => d
  | i + 1, d => if rfL p q i d < 0 then (if tmL p i 4 = q then nI i else -1) else rfL p q i d
def rgP (N : Nat) (V : Fn) : Int32 := V 8 ^^^ fgL V 0 (N - 2)
def rgQ (N : Nat) (V : Fn) : Int32 := V 9 ^^^ wsR V (N - 2)
def rsf (N : Nat) (V : Fn) : Int32 := rfL (rgP N V) (rgQ N V) (N - 2) (if rgP N V = 0 then 9 else if rgQ N V = 0 then 8 else -1)
def rSc2 (N S b a : Nat) (r : RS) : Int32 × RS := if (rSt N a b (rV r a ^^^ (if a = 9 then rgQ N (rV r) else rgP N (rV r))) r).1 = false then (-4, (rSt N a b (rV r a ^^^ (if a = 9 then rgQ N (rV r) else rgP N (rV r))) r).2) else (nI (1 + rdk N a b), (rSt N a b (rV r a ^^^ (if a = 9 then rgQ N (rV r) else rgP N (rV r))) r).2)
def rSc1 (N S b : Nat) (r : RS) : Int32 × RS := if rgP N (rV r) = 0 ∧ rgQ N (rV r) = 0 then (0, r) else if rsf N (rV r) < 0 then (-7, r) else rSc2 N S b (tn (rsf N (rV r))) r
def rSc (N S : Nat) (x : Int32) (r : RS) : Int32 × RS := if ¬ x < 0 ∧ ¬ nI S ≤ x then (if rRef N S r = 0 then (if cntA (rP r) x N < N then (-6, r) else rSc1 N S (tn x) (rRV N (tn x) (tRc r (rRc r + nI N)))) else (rRef N S r, r)) else (-1, r)
theorem sfI_none {p q : Int32} {m : Nat} (hm : m < 100) : ∀ k, k ≤ m → (sfI p q m k = -1 ∧ ∀ i, m - k ≤ i → i < m → ¬ dblN i p = q) ∨ ∃ i, m - k ≤ i ∧ i < m ∧ sfI p q m k = nI i ∧ dblN i p = q ∧ ∀ j, m - k ≤ j → j < i → ¬ dblN j p = q := by
  intro k
  induction k with
  | zero => intro _; exact Or.inl ⟨rfl, fun i h1 h2 => absurd h2 (by omega)⟩
  | succ k ih =>
    intro hk
    by_cases e : dblN (m - (k + 1)) p = q
    · refine Or.inr ⟨m - (k + 1), Nat.le_refl _, by omega, ?_, e, fun j h1 h2 => absurd h2 (by omega)⟩
      show (if dblN (m - (k + 1)) p = q then _ else _) = _
      rw [if_pos e]
    · have es : sfI p q m (k + 1) = sfI p q m k := by
        show (if dblN (m - (k + 1)) p = q then _ else _) = _
        rw [if_neg e]
      rw [es]
      rcases ih (by omega) with ⟨h1, h2⟩ | ⟨i, h1, h2, h3, h4, h5⟩
      · refine Or.inl ⟨h1, fun i g1 g2 => ?_⟩
        rcases Nat.lt_or_ge i (m - k) with z | z
        · have : i = m - (k + 1) := by omega
          subst this; exact e
        · exact h2 i z g2
      · refine Or.inr ⟨i, by omega, h2, h3, h4, fun j g1 g2 => ?_⟩
        rcases Nat.lt_or_ge j (m - k) with z | z
        · have : j = m - (k + 1) := by omega
          subst this; exact e
        · exact h5 j z g2
theorem rfL_set {p q d : Int32} (h : ¬ d < 0) : ∀ n, rfL p q n d = d := by
  intro n
  induction n with
  | zero => rfl
  | succ n ih => show (if rfL p q n d < 0 then _ else rfL p q n d) = d; rw [ih, if_neg h]
theorem rfL_none {p q : Int32} : ∀ n, n < 100 → (rfL p q n (-1) = -1 ∧ ∀ i, i < n → ¬ dblN i p = q) ∨ ∃ i, i < n ∧ rfL p q n (-1) = nI i ∧ dblN i p = q ∧ ∀ j, j < i → ¬ dblN j p = q := by
  intro n
  induction n with
  | zero => intro _; exact Or.inl ⟨rfl, fun i h => absurd h (by omega)⟩
  | succ n ih =>
    intro hn
    have es : rfL p q (n + 1) (-1) = if rfL p q n (-1) < 0 then (if tmL p n 4 = q then nI n else -1) else rfL p q n (-1) := rfl
    rw [es, tm_eq]
    rcases ih (by omega) with ⟨h1, h2⟩ | ⟨i, h1, h2, h3, h4⟩
    · rw [h1, if_pos (by decide)]
      by_cases e : dblN n p = q
      · rw [if_pos e]
        exact Or.inr ⟨n, by omega, rfl, e, h2⟩
      · rw [if_neg e]
        refine Or.inl ⟨rfl, fun i hi => ?_⟩
        rcases Nat.lt_or_ge i n with z | z
        · exact h2 i z
        · have : i = n := by omega
          subst this; exact e
    · rw [h2, if_neg (nI_pos (by omega))]
      exact Or.inr ⟨i, by omega, rfl, h3, h4⟩
theorem sc1_eq {N S b : Nat} {P0 : Fn} (hN4 : 4 ≤ N) (hN : N ≤ 10) (hS : S ≤ 16) (hb : b < S) (hP : RPos N S P0) {c : CS} {r : RS} (h : J0p N S P0 c r) (hall : ∀ a, a < N → nI b < cP c (dk N a b)) (hc : ∀ a, a < N - 2 → rV r a = cV c a) (h8 : rV r 8 = cV c (N - 2)) (h9 : rV r 9 = cV c (N - 1)) : (cSc1 N S b c).1 = (rSc1 N S b r).1 ∧ RR N S (cSc1 N S b c).2 (rSc1 N S b r).2 := by
  have ep : rgP N (rV r) = fg N (cV c) := by unfold rgP; rw [fg_eq, h8, fgL_c _ hc]
  have eq : rgQ N (rV r) = sg N (cV c) := by unfold rgQ; rw [sg_eq, h9, wsR_eq, wsA_c hc]
  have ePo : cP c = rP r := h.1.1.2.2.2.2.2.2.2.1
  -- one store, by slot and by part
  have store : ∀ a a', a < N → rdk N a' b = dk N a b → ∀ w : Int32, (cWr S (dk N a b) b w c).1 = (rSt N a' b w r).1 ∧ RR N S (cWr S (dk N a b) b w c).2 (rSt N a' b w r).2 := by
    intro a a' ha hd w
    have a1 := J0_act h
    unfold cWr rSt
    rw [hd, if_pos (show nI b < rP r (dk N a b) by rw [← ePo]; exact hall a ha)]
    by_cases q1 : (cBeg c).1 = false
    · rw [if_pos q1, if_pos (a1.1 ▸ q1)]
      exact ⟨rfl, RR_of3 hP (a1.2.2 q1)⟩
    · have q1t : (cBeg c).1 = true := by revert q1; cases (cBeg c).1 <;> simp
      rw [if_neg q1, if_neg (fun z => q1 (a1.1.trans z))]
      obtain ⟨⟨y1, y2⟩, y3⟩ := a1.2.1 q1t
      exact ⟨rfl, RR_of0 hP ⟨⟨RA_put (dk_lt (by omega)) hb hS y1, y2⟩, y3⟩⟩
  have fin : ∀ a a', a < N → a' < 10 → rdk N a' b = dk N a b → mend N (cV c) a = rV r a' ^^^ (if a' = 9 then rgQ N (rV r) else rgP N (rV r)) → saf N (cV c) = nI a → rsf N (rV r) = nI a' → (if saf N (cV c) = -1 then ((-7 : Int32), c) else cSc2 N S b (tn (saf N (cV c))) c).1 = (if rsf N (rV r) < 0 then ((-7 : Int32), r) else rSc2 N S b (tn (rsf N (rV r))) r).1 ∧ RR N S (if saf N (cV c) = -1 then ((-7 : Int32), c) else cSc2 N S b (tn (saf N (cV c))) c).2 (if rsf N (rV r) < 0 then ((-7 : Int32), r) else rSc2 N S b (tn (rsf N (rV r))) r).2 := by
    intro a a' ha ha' hd hm e1 e2
    rw [e1, e2, if_neg (nI_m1 (by omega)), if_neg (nI_pos (by omega)), tn_nI (by omega), tn_nI (by omega)]
    unfold cSc2 rSc2
    rw [hm, hd]
    obtain ⟨s1, s2⟩ := store a a' ha hd (rV r a' ^^^ (if a' = 9 then rgQ N (rV r) else rgP N (rV r)))
    rw [← s1]
    generalize rV r a' ^^^ (if a' = 9 then rgQ N (rV r) else rgP N (rV r)) = w at s1 s2 ⊢
    split
    · exact ⟨rfl, s2⟩
    · exact ⟨rfl, s2⟩
  unfold cSc1 rSc1
  rw [ep, eq]
  by_cases q : fg N (cV c) = 0 ∧ sg N (cV c) = 0
  · rw [if_pos q, if_pos q]
    exact ⟨rfl, RR_of0 hP h⟩
  · rw [if_neg q, if_neg q]
    by_cases q1 : sg N (cV c) = 0
    · have q0 : ¬ fg N (cV c) = 0 := fun z => q ⟨z, q1⟩
      refine fin (N - 2) 8 (by omega) (by decide) (rdk_P hN4) ?_ ?_ ?_
      · unfold mend; rw [if_neg (by omega), if_neg (by decide), h8, ep]
      · unfold saf; rw [if_pos q1]
      · unfold rsf; rw [ep, eq, if_neg q0, if_pos q1]; exact rfL_set (by decide) _
    · by_cases q0 : fg N (cV c) = 0
      · refine fin (N - 1) 9 (by omega) (by decide) (rdk_Q hN4) ?_ ?_ ?_
        · unfold mend; rw [if_pos rfl, if_pos rfl, h9, eq]
        · unfold saf; rw [if_neg q1, if_pos q0]
        · unfold rsf; rw [ep, eq, if_pos q0]; exact rfL_set (by decide) _
      · have es : saf N (cV c) = sfI (fg N (cV c)) (sg N (cV c)) (N - 2) (N - 2) := by unfold saf; rw [if_neg q1, if_neg q0]
        have er : rsf N (rV r) = rfL (fg N (cV c)) (sg N (cV c)) (N - 2) (-1) := by unfold rsf; rw [ep, eq, if_neg q0, if_neg q1]
        rcases sfI_none (p := fg N (cV c)) (q := sg N (cV c)) (m := N - 2) (by omega) (N - 2) (Nat.le_refl _) with ⟨g1, g2⟩ | ⟨i, g1, g2, g3, g4, g5⟩ <;> rcases rfL_none (p := fg N (cV c)) (q := sg N (cV c)) (N - 2) (by omega) with ⟨k1, k2⟩ | ⟨j, k1, k2, k3, k4⟩
        · rw [es, er, g1, k1, if_pos rfl, if_pos (by decide)]
          exact ⟨rfl, RR_of0 hP h⟩
        · exact absurd k3 (g2 j (by omega) k1)
        · exact absurd g4 (k2 i g2)
        · have hij : i = j := by
            rcases Nat.lt_trichotomy i j with z | z | z
            · exact absurd g4 (k4 i z)
            · exact z
            · exact absurd k3 (g5 j (by omega) z)
          subst hij
          refine fin i i (by omega) (by omega) (rdk_c (by omega)) ?_ (es.trans g3) (er.trans k2)
          unfold mend; rw [if_neg (by omega), if_neg (by omega), hc i g2, ep]
theorem cntA_all {P : Fn} {x : Int32} : ∀ n, cntA P x n = n → ∀ d, d < n → x < P d := by
  intro n
  induction n with
  | zero => intro _ d hd; omega
  | succ n ih =>
    intro h d hd
    have hle := cntA_le P x n
    have e : cntA P x (n + 1) = if x < P n then cntA P x n + 1 else cntA P x n := rfl
    rw [e] at h
    by_cases q : x < P n
    · rw [if_pos q] at h
      rcases Nat.lt_or_ge d n with z | z
      · exact ih (by omega) d z
      · have : d = n := by omega
        subst this; exact q
    · rw [if_neg q] at h; omega
theorem scr_eq {N S : Nat} {x : Int32} (hN4 : 4 ≤ N) (hN : N ≤ 10) (hS1 : 1 ≤ S) (hS : S ≤ 16) {c : CS} {r : RS} (h : RR N S c r) : (cSc N S x c).1 = (rSc N S x r).1 ∧ RR N S (cSc N S x c).2 (rSc N S x r).2 := by
  unfold cSc rSc
  by_cases q : ¬ x < 0 ∧ ¬ nI S ≤ x
  · rw [if_pos q, if_pos q, ← ref_eq h.1]
    by_cases q2 : cRef N S c = 0
    · rw [if_pos q2, if_pos q2]
      have h8 : cP c = rP r := h.1.2.2.2.2.2.2.2.1
      rw [← h8]
      have hle := cntA_le (cP c) x N
      by_cases q3 : cntA (cP c) x N = N
      · rw [if_pos q3, if_neg (by omega)]
        obtain ⟨hx1, hx2⟩ := tn_of (by omega) q
        obtain ⟨hd0, hb0⟩ := ref_0 q2
        have h2 := two_of hN4 hS hx1 hb0
        obtain ⟨v1, v2, v3⟩ := val_eq (V := cV c) (V6 := rV r) hN4 hN (fun d hd => h.1.2.2.2.2.2.2.1 d (tn x) hd hx1) h2
        refine sc1_eq hN4 hN hS hx1 h.2.2 ?_ (fun a ha => ?_) ?_ ?_ ?_
        · obtain ⟨⟨h1, h2, h3, h4, h5, h6, h7, h8, h9⟩, hl, hp⟩ := h
          refine ⟨⟨⟨h1, h2, h3, ?_, h5, h6, h7, h8, h9⟩, log_up hl hd0⟩, rfl⟩
          show cRc c + nI (cntA (cP c) (nI (tn x)) N) = rRc r + nI N
          rw [h4, ← hx2, q3]
        · show nI (tn x) < cP c (dk N a (tn x))
          rw [← hx2]
          exact cntA_all N q3 _ (dk_lt (by omega))
        · intro a ha
          show rVal N (tn x) (rW r) (rP r) (rV r) a = ldV N S (tn x) (cW c) (cP c) (cV c) a
          rw [← h8]; exact v1 a ha
        · show rVal N (tn x) (rW r) (rP r) (rV r) 8 = ldV N S (tn x) (cW c) (cP c) (cV c) (N - 2)
          rw [← h8]; exact v2
        · show rVal N (tn x) (rW r) (rP r) (rV r) 9 = ldV N S (tn x) (cW c) (cP c) (cV c) (N - 1)
          rw [← h8]; exact v3
      · rw [if_neg q3, if_pos (by omega)]
        exact ⟨rfl, h⟩
    · rw [if_neg q2, if_neg q2]; exact ⟨rfl, h⟩
  · rw [if_neg q, if_neg q]; exact ⟨rfl, h⟩
-- faults
def cFaL (N S : Nat) (c : CS) : Nat → Nat × CS
  | 0 => (0, c)
  | s + 1 => (if fg N (cV (cLd N S s (cFaL N S c s).2)) = 0 ∧ sg N (cV (cLd N S s (cFaL N S c s).2)) = 0 then (cFaL N S c s).1 else (cFaL N S c s).1 + 1, cLd N S s (cFaL N S c s).2)
def cFa (N S : Nat) (c : CS) : Int32 × CS := if 2 < cntB (cP c) (nI S) N then (-3, c) else (nI (cFaL N S c S).1, (cFaL N S c S).2)
def rFaL (N S : Nat) (r : RS) : Nat → Nat × RS
  | 0 => (0, r)
  | s + 1 => (if ¬ rV (rRV N s (rFaL N S r s).2) 8 = fgL (rV (rRV N s (rFaL N S r s).2)) 0 (N - 2) ∨ ¬ rV (rRV N s (rFaL N S r s).2) 9 = wsR (rV (rRV N s (rFaL N S r s).2)) (N - 2) then (rFaL N S r s).1 + 1 else (rFaL N S r s).1, rRV N s (rFaL N S r s).2)
def rFa (N S : Nat) (r : RS) : Int32 × RS := if 2 < cntB (rP r) (nI S) N then (-3, r) else (nI (rFaL N S r S).1, (rFaL N S r S).2)
theorem RR_vals {N S : Nat} {c : CS} {r : RS} (h : RR N S c r) (X Y : Fn) : RR N S (sV c X) (tV r Y) := h
theorem faL_eq {N S : Nat} (hN4 : 4 ≤ N) (hN : N ≤ 10) (hS : S ≤ 16) {c : CS} {r : RS} (h : RR N S c r) (hb : ¬ 2 < cntB (cP c) (nI S) N) : ∀ s, s ≤ S → (cFaL N S c s).1 = (rFaL N S r s).1 ∧ RR N S (cFaL N S c s).2 (rFaL N S r s).2 ∧ cP (cFaL N S c s).2 = cP c := by
  intro s
  induction s with
  | zero => intro _; exact ⟨rfl, h, rfl⟩
  | succ s ih =>
    intro hs
    obtain ⟨i1, i2, i3⟩ := ih (by omega)
    have h2 : two N s (cP (cFaL N S c s).2) := by rw [i3]; exact two_of hN4 hS (by omega) hb
    have h8 : cP (cFaL N S c s).2 = rP (rFaL N S r s).2 := i2.1.2.2.2.2.2.2.2.1
    obtain ⟨v1, v2, v3⟩ := val_eq (V := cV (cFaL N S c s).2) (V6 := rV (rFaL N S r s).2) hN4 hN (fun d hd => i2.1.2.2.2.2.2.2.1 d s hd (by omega)) h2
    have ec : cV (cLd N S s (cFaL N S c s).2) = ldV N S s (cW (cFaL N S c s).2) (cP (cFaL N S c s).2) (cV (cFaL N S c s).2) := rfl
    have er : rV (rRV N s (rFaL N S r s).2) = rVal N s (rW (rFaL N S r s).2) (cP (cFaL N S c s).2) (rV (rFaL N S r s).2) := by rw [h8]; rfl
    rw [← ec, ← er] at v1 v2 v3
    refine ⟨?_, RR_vals i2 _ _, i3⟩
    show (if fg N (cV (cLd N S s (cFaL N S c s).2)) = 0 ∧ sg N (cV (cLd N S s (cFaL N S c s).2)) = 0 then (cFaL N S c s).1 else (cFaL N S c s).1 + 1) = (if ¬ rV (rRV N s (rFaL N S r s).2) 8 = fgL (rV (rRV N s (rFaL N S r s).2)) 0 (N - 2) ∨ ¬ rV (rRV N s (rFaL N S r s).2) 9 = wsR (rV (rRV N s (rFaL N S r s).2)) (N - 2) then (rFaL N S r s).1 + 1 else (rFaL N S r s).1)
    have e1 : fg N (cV (cLd N S s (cFaL N S c s).2)) = 0 ↔ rV (rRV N s (rFaL N S r s).2) 8 = fgL (rV (rRV N s (rFaL N S r s).2)) 0 (N - 2) := by
      rw [fg_eq, Int32.xor_eq_zero_iff, v2, fgL_c _ v1]
    have e2 : sg N (cV (cLd N S s (cFaL N S c s).2)) = 0 ↔ rV (rRV N s (rFaL N S r s).2) 9 = wsR (rV (rRV N s (rFaL N S r s).2)) (N - 2) := by
      rw [sg_eq, Int32.xor_eq_zero_iff, v3, wsR_eq, wsA_c v1]
    rw [i1]
    by_cases q1 : rV (rRV N s (rFaL N S r s).2) 8 = fgL (rV (rRV N s (rFaL N S r s).2)) 0 (N - 2)
    · by_cases q2 : rV (rRV N s (rFaL N S r s).2) 9 = wsR (rV (rRV N s (rFaL N S r s).2)) (N - 2)
      · rw [if_pos ⟨e1.mpr q1, e2.mpr q2⟩, if_neg (fun z => z.elim (fun z => z q1) (fun z => z q2))]
      · rw [if_neg (fun z => q2 (e2.mp z.2)), if_pos (Or.inr q2)]
    · rw [if_neg (fun z => q1 (e1.mp z.1)), if_pos (Or.inl q1)]
theorem fa_eq {N S : Nat} (hN4 : 4 ≤ N) (hN : N ≤ 10) (hS : S ≤ 16) {c : CS} {r : RS} (h : RR N S c r) : (cFa N S c).1 = (rFa N S r).1 ∧ RR N S (cFa N S c).2 (rFa N S r).2 := by
  have h8 : cP c = rP r := h.1.2.2.2.2.2.2.2.1
  unfold cFa rFa
  rw [← h8]
  by_cases q : 2 < cntB (cP c) (nI S) N
  · rw [if_pos q, if_pos q]; exact ⟨rfl, h⟩
  · rw [if_neg q, if_neg q]
    obtain ⟨a1, a2, a3⟩ := faL_eq hN4 hN hS h q S (Nat.le_refl _)
    rw [a1]
    exact ⟨rfl, a2⟩
-- restart
def cRs1 (c : CS) : Int32 × CS := (cMd (sDn c 0), sDn c 0)
noncomputable def cRs (N S : Nat) (c : CS) : Int32 × CS := if cDn c = 0 then (-8, c) else if 2 < cntB (cP c) (nI S) N then (-3, c) else
  if cLs (sMd c 0) = -1 then cRs1 (sMd c 0) else if (cCar N S (tn (cLs (sMd c 0))) (sMd c 0)).1 = false then (-4, (cCar N S (tn (cLs (sMd c 0))) (sMd c 0)).2) else cRs1 (cCar N S (tn (cLs (sMd c 0))) (sMd c 0)).2
def rRs1 (r : RS) : Int32 × RS := (rMd (tDn r 0), tDn r 0)
def rRs (N S : Nat) (r : RS) : Int32 × RS := if rDn r = 0 then (-8, r) else if 2 < cntB (rP r) (nI S) N then (-3, r) else
  if rLs (tMd r 0) < 0 then rRs1 (tMd r 0) else if (rAp N (tn (rLs (tMd r 0))) (tn (rLf (tMd r 0))) (tn (rLt (tMd r 0))) (tMd r 0)).1 = false then (-4, (rAp N (tn (rLs (tMd r 0))) (tn (rLf (tMd r 0))) (tn (rLt (tMd r 0))) (tMd r 0)).2) else rRs1 (rAp N (tn (rLs (tMd r 0))) (tn (rLf (tMd r 0))) (tn (rLt (tMd r 0))) (tMd r 0)).2
theorem rs1_eq {N S : Nat} {c : CS} {r : RS} (h : J0 N S c r) (hP : RPos N S (cP c)) : (cRs1 c).1 = (rRs1 r).1 ∧ RR N S (cRs1 c).2 (rRs1 r).2 := by
  obtain ⟨⟨h1, h2, h3, h4, h5, h6, h7, h8, h9⟩, hl⟩ := h
  exact ⟨h3, ⟨h1, rfl, h3, h4, h5, h6, h7, h8, Or.inl rfl⟩, Or.inl hl, hP⟩
theorem rs_eq {N S : Nat} (hN4 : 4 ≤ N) (hN : N ≤ 10) (hS : S ≤ 16) {c : CS} {r : RS} (h : RR N S c r) : (cRs N S c).1 = (rRs N S r).1 ∧ RR N S (cRs N S c).2 (rRs N S r).2 := by
  have h8 : cP c = rP r := h.1.2.2.2.2.2.2.2.1
  have hdn : cDn c = rDn r := h.1.2.1
  unfold cRs rRs
  rw [← h8, ← hdn]
  by_cases q : cDn c = 0
  · rw [if_pos q, if_pos q]; exact ⟨rfl, h⟩
  rw [if_neg q, if_neg q]
  by_cases q2 : 2 < cntB (cP c) (nI S) N
  · rw [if_pos q2, if_pos q2]; exact ⟨rfl, h⟩
  rw [if_neg q2, if_neg q2]
  have hm : RA N S (sMd c 0) (tMd r 0) := by
    obtain ⟨⟨h1, h2, h3, h4, h5, h6, h7, h8, h9⟩, hl, hp⟩ := h
    exact ⟨h1, h2, rfl, h4, h5, h6, h7, h8, h9⟩
  have el : cLs (sMd c 0) = cLs c := rfl
  have er : rLs (tMd r 0) = rLs r := rfl
  rw [el, er]
  rcases h.2.1 with ⟨l1, l2⟩ | ⟨⟨b, f, e, hb, hfe, he, l⟩, hd⟩
  · rw [if_pos l1, if_pos (by rw [l2]; decide)]
    exact rs1_eq ⟨hm, l1, l2⟩ h.2.2
  · obtain ⟨g1, g2, g3, g4, g5, g6, g7, g8, g9⟩ := id l
    rw [if_neg (show ¬ cLs c = -1 by rw [g1]; exact nI_m1 (by omega)), if_neg (show ¬ rLs r < 0 by rw [g2]; exact nI_pos (by omega)), g1, g2, tn_nI (by omega)]
    have ef : tn (rLf (tMd r 0)) = f := by show tn (rLf r) = f; rw [g5]; exact tn_nI (by omega)
    have ee : tn (rLt (tMd r 0)) = e := by show tn (rLt r) = e; rw [g6]; exact tn_nI (by omega)
    rw [ef, ee]
    have hq := car_ap hN4 hN hS hb he hfe (c := sMd c 0) (r := tMd r 0) ⟨hm, l⟩
    have hp : cP (cCar N S b (sMd c 0)).2 = cP c := cP_car ..
    generalize cCar N S b (sMd c 0) = X at hq hp ⊢
    generalize rAp N b f e (tMd r 0) = Y at hq ⊢
    by_cases q3 : X.1 = false
    · rw [if_pos q3, if_pos (hq.1 ▸ q3)]
      obtain ⟨y1, y2, y3⟩ := hq.2.2 q3
      exact ⟨rfl, y1, Or.inr ⟨⟨b, f, e, hb, hfe, he, y2⟩, y3⟩, by rw [hp]; exact h.2.2⟩
    · rw [if_neg q3, if_neg (fun z => q3 (hq.1.trans z))]
      have q3t : X.1 = true := by revert q3; cases X.1 <;> simp
      exact rs1_eq (hq.2.1 q3t) (by rw [hp]; exact h.2.2)
-- corrupt, arm, crash
def cCor (N S : Nat) (x y w : Int32) (c : CS) : Bool × CS := if (¬ x < 0 ∧ ¬ nI N ≤ x) ∧ (¬ y < 0 ∧ ¬ nI S ≤ y) then (if y < cP c (tn x) then (true, sW c (upd (cW c) (tn x * S + tn y) (cW c (tn x * S + tn y) ^^^ w))) else (false, c)) else (false, c)
def rCor (N S : Nat) (x y w : Int32) (r : RS) : Bool × RS := if (¬ x < 0 ∧ ¬ nI N ≤ x) ∧ (¬ y < 0 ∧ ¬ nI S ≤ y) then (if y < rP r (tn x) then (true, tW r (upd (rW r) (16 * tn x + tn y) (rW r (16 * tn x + tn y) ^^^ w))) else (false, r)) else (false, r)
theorem cor_eq {N S : Nat} {x y w : Int32} (hN4 : 4 ≤ N) (hN : N ≤ 10) (hS : S ≤ 16) {c : CS} {r : RS} (h : RR N S c r) : (cCor N S x y w c).1 = (rCor N S x y w r).1 ∧ RR N S (cCor N S x y w c).2 (rCor N S x y w r).2 := by
  have h8 : cP c = rP r := h.1.2.2.2.2.2.2.2.1
  unfold cCor rCor
  rw [← h8]
  by_cases q : (¬ x < 0 ∧ ¬ nI N ≤ x) ∧ (¬ y < 0 ∧ ¬ nI S ≤ y)
  · rw [if_pos q, if_pos q]
    obtain ⟨hx1, hx2⟩ := tn_of (by omega) q.1
    obtain ⟨hy1, hy2⟩ := tn_of (by omega) q.2
    by_cases q2 : y < cP c (tn x)
    · rw [if_pos q2, if_pos q2]
      obtain ⟨⟨h1, h2, h3, h4, h5, h6, h7, h8, h9⟩, hl, hp⟩ := h
      refine ⟨rfl, ⟨h1, h2, h3, h4, h5, h6, fun d b hd hb => ?_, h8, h9⟩, hl, hp⟩
      show upd (cW c) (tn x * S + tn y) (cW c (tn x * S + tn y) ^^^ w) (d * S + b) = upd (rW r) (16 * tn x + tn y) (rW r (16 * tn x + tn y) ^^^ w) (16 * d + b)
      rw [h7 (tn x) (tn y) hx1 hy1]
      unfold upd
      by_cases e : d = tn x ∧ b = tn y
      · rw [e.1, e.2, if_pos rfl, if_pos rfl]
      · rw [if_neg (fun z => e (ix_inj hb hy1 z)), if_neg (fun z => e ⟨by omega, by omega⟩)]
        exact h7 d b hd hb
    · rw [if_neg q2, if_neg q2]; exact ⟨rfl, h⟩
  · rw [if_neg q, if_neg q]; exact ⟨rfl, h⟩
def cArm (x : Int32) (c : CS) : Bool × CS := if x < 0 then (false, c) else if 1000 < x then (false, c) else (true, sUn c x)
def rArm (x : Int32) (r : RS) : Bool × RS := if x < 0 then (false, r) else if 1000 < x then (false, r) else (true, tUn (tAr r 1) x)
theorem arm_eq {N S : Nat} {x : Int32} {c : CS} {r : RS} (h : RR N S c r) : (cArm x c).1 = (rArm x r).1 ∧ RR N S (cArm x c).2 (rArm x r).2 := by
  unfold cArm rArm
  by_cases q : x < 0
  · rw [if_pos q, if_pos q]; exact ⟨rfl, h⟩
  rw [if_neg q, if_neg q]
  by_cases q2 : 1000 < x
  · rw [if_pos q2, if_pos q2]; exact ⟨rfl, h⟩
  rw [if_neg q2, if_neg q2]
  obtain ⟨k, hk, rfl⟩ : ∃ k, k ≤ 1000 ∧ x = nI k := nI_of2 (M := 1000) (n := 1000) (by decide) q (Int32.not_lt.mp q2)
  obtain ⟨⟨h1, h2, h3, h4, h5, h6, h7, h8, h9⟩, hl, hp⟩ := h
  exact ⟨rfl, ⟨h1, h2, h3, h4, h5, Or.inr ⟨rfl, rfl, k, hk, rfl⟩, h7, h8, h9⟩, hl, hp⟩
def cCra (c : CS) : Bool × CS := if cDn c = 0 then (true, cStop c) else (false, c)
def rCra (r : RS) : Bool × RS := if rDn r = 0 then (true, tAr (tDn r 1) 0) else (false, r)
theorem cra_eq {N S : Nat} {c : CS} {r : RS} (h : RR N S c r) : (cCra c).1 = (rCra r).1 ∧ RR N S (cCra c).2 (rCra r).2 := by
  have hdn : cDn c = rDn r := h.1.2.1
  unfold cCra rCra
  rw [← hdn]
  by_cases q : cDn c = 0
  · rw [if_pos q, if_pos q]
    have hl := log_up h.2.1 q
    obtain ⟨⟨h1, h2, h3, h4, h5, h6, h7, h8, h9⟩, hl', hp⟩ := h
    exact ⟨rfl, ⟨h1, rfl, h3, h4, h5, Or.inl ⟨rfl, rfl⟩, h7, h8, Or.inr rfl⟩, Or.inl hl, hp⟩
  · rw [if_neg q, if_neg q]; exact ⟨rfl, h⟩
-- what only answers
def cPk (N S : Nat) (x y : Int32) (c : CS) : Int64 := if (¬ x < 0 ∧ ¬ nI N ≤ x) ∧ (¬ y < 0 ∧ ¬ nI S ≤ y) then (if y < cP c (tn x) then un64 (cW c (tn x * S + tn y)) else -1) else -1
def rPk (N S : Nat) (x y : Int32) (r : RS) : Int64 := if (¬ x < 0 ∧ ¬ nI N ≤ x) ∧ (¬ y < 0 ∧ ¬ nI S ≤ y) then (if y < rP r (tn x) then un64 (rW r (16 * tn x + tn y)) else -1) else -1
theorem pk_eq2 {N S : Nat} {x y : Int32} (hN : N ≤ 10) (hS : S ≤ 16) {c : CS} {r : RS} (h : RR N S c r) : cPk N S x y c = rPk N S x y r := by
  have h8 : cP c = rP r := h.1.2.2.2.2.2.2.2.1
  unfold cPk rPk
  rw [← h8]
  by_cases q : (¬ x < 0 ∧ ¬ nI N ≤ x) ∧ (¬ y < 0 ∧ ¬ nI S ≤ y)
  · rw [if_pos q, if_pos q, h.1.2.2.2.2.2.2.1 _ _ (tn_of (by omega) q.1).1 (tn_of (by omega) q.2).1]
  · rw [if_neg q, if_neg q]
def loc (N S : Nat) (x : Int32) : Int32 := if ¬ x < 0 ∧ ¬ nI (S * (N - 2)) ≤ x then nI (dk N (tn x % (N - 2)) (tn x / (N - 2))) else -1
def cPo (N : Nat) (x : Int32) (c : CS) : Int32 := if ¬ x < 0 ∧ ¬ nI N ≤ x then (if cP c (tn x) = -1 then -9 else cP c (tn x)) else -1
def rPo (N : Nat) (x : Int32) (r : RS) : Int32 := if ¬ x < 0 ∧ ¬ nI N ≤ x then (if rP r (tn x) < 0 then -9 else rP r (tn x)) else -1
theorem po_eq {N S : Nat} {x : Int32} (hN : N ≤ 10) (hS : S ≤ 16) {c : CS} {r : RS} (h : RR N S c r) : cPo N x c = rPo N x r := by
  have h8 : cP c = rP r := h.1.2.2.2.2.2.2.2.1
  unfold cPo rPo
  rw [← h8]
  by_cases q : ¬ x < 0 ∧ ¬ nI N ≤ x
  · rw [if_pos q, if_pos q]
    have hn := pos_neg hS h.2.2 (tn_of (by omega) q).1
    by_cases q2 : cP c (tn x) = -1
    · rw [if_pos q2, if_pos (hn.mpr q2)]
    · rw [if_neg q2, if_neg (fun z => q2 (hn.mp z))]
  · rw [if_neg q, if_neg q]
def cMo (N S : Nat) (c : CS) : Int32 := (if cDn c = 0 then 0 else 1) + (if 2 < cntB (cP c) (nI S) N then 2 else 0) + (if cUn c = -1 then 0 else 4)
def rMo (N S : Nat) (r : RS) : Int32 := (if rDn r = 0 then 0 else 1) + (if 2 < cntB (rP r) (nI S) N then 2 else 0) + (if rAr r = 0 then 0 else 4)
theorem mo_eq {N S : Nat} {c : CS} {r : RS} (h : RR N S c r) : cMo N S c = rMo N S r := by
  obtain ⟨⟨h1, h2, h3, h4, h5, h6, h7, h8, h9⟩, hl, hp⟩ := h
  unfold cMo rMo
  rw [h2, h8]
  rcases h6 with ⟨q1, q2⟩ | ⟨q1, q2, k, hk, q3⟩
  · rw [if_pos q1, if_pos q2]
  · rw [if_neg (show ¬ cUn c = -1 by rw [q3]; exact nI_m1 (by omega)), if_neg (show ¬ rAr r = 0 by rw [q1]; decide)]
theorem lg_eq {N S : Nat} {c : CS} {r : RS} (h : RR N S c r) : cLs c = rLs r := by
  rcases h.2.1 with ⟨l1, l2⟩ | ⟨⟨b, f, e, hb, hfe, he, l⟩, hd⟩
  · rw [l1, l2]
  · rw [l.1, l.2.1]
