/-! the public methods of both sides, and that they answer alike -/
def inR (x : Int32) (n : Nat) : Prop := ¬ x < 0 ∧ ¬ nI n ≤ x
def rRef (N S : Nat) (r : RS) : Int32 := if rDn r = 0 then (if 2 < cntB (rP r) (nI S) N then -3 else 0) else -2
def RLog (N S : Nat) (c : CS) (r : RS) : Prop := (cLs c = -1 ∧ rLs r = -1) ∨ ((∃ b f e, b < S ∧ f ≤ e ∧ e ≤ N - 2 ∧ RLg N b f e c r) ∧ cDn c = 1)
def RPos (N S : Nat) (P : Fn) : Prop := ∀ d, d < N → P d = -1 ∨ ∃ k, k ≤ S ∧ P d = nI k
def RR (N S : Nat) (c : CS) (r : RS) : Prop := RA N S c r ∧ RLog N S c r ∧ RPos N S (cP c)
theorem ref_eq {N S : Nat} {c : CS} {r : RS} (h : RA N S c r) : cRef N S c = rRef N S r := by
  obtain ⟨-, h2, -, -, -, -, -, h8, -⟩ := h
  unfold cRef rRef
  rw [h2, h8]
theorem ref_0 {N S : Nat} {c : CS} (h : cRef N S c = 0) : cDn c = 0 ∧ ¬ 2 < cntB (cP c) (nI S) N := by
  unfold cRef at h
  by_cases q : cDn c = 0
  · rw [if_pos q] at h
    by_cases q2 : 2 < cntB (cP c) (nI S) N
    · rw [if_pos q2] at h; exact absurd h (by decide)
    · exact ⟨q, q2⟩
  · rw [if_neg q] at h; exact absurd h (by decide)
theorem log_up {N S : Nat} {c : CS} {r : RS} (h : RLog N S c r) (hd : cDn c = 0) : cLs c = -1 ∧ rLs r = -1 := by
  rcases h with h | ⟨-, h⟩
  · exact h
  · rw [hd] at h; exact absurd h (by decide)
-- read
def cRd (N S : Nat) (x : Int32) (c : CS) : Int64 × CS :=
  if ¬ x < 0 ∧ ¬ nI (S * (N - 2)) ≤ x then
    (if cRef N S c = 0 then
      (if nI (tn x / (N - 2)) < cP c (dk N (tn x % (N - 2)) (tn x / (N - 2))) then (un64 (cW c (dk N (tn x % (N - 2)) (tn x / (N - 2)) * S + tn x / (N - 2))), sRc c (cRc c + 1))
       else (un64 (cV (cRA N S (tn x / (N - 2)) c) (tn x % (N - 2))), cRA N S (tn x / (N - 2)) c))
     else ((cRef N S c).toInt64, c))
  else (-1, c)
def rRV (N b : Nat) (r : RS) : RS := tV r (rVal N b (rW r) (rP r) (rV r))
def rRd (N S : Nat) (x : Int32) (r : RS) : Int64 × RS :=
  if ¬ x < 0 ∧ ¬ nI (S * (N - 2)) ≤ x then
    (if rRef N S r = 0 then
      (un64 (rV (rRV N (tn x / (N - 2)) (tRc r (rRc r + (if nI (tn x / (N - 2)) < rP r (rdk N (tn x % (N - 2)) (tn x / (N - 2))) then 1 else nI (cntA (rP r) (nI (tn x / (N - 2))) N))))) (tn x % (N - 2))),
       rRV N (tn x / (N - 2)) (tRc r (rRc r + (if nI (tn x / (N - 2)) < rP r (rdk N (tn x % (N - 2)) (tn x / (N - 2))) then 1 else nI (cntA (rP r) (nI (tn x / (N - 2))) N)))))
     else ((rRef N S r).toInt64, r))
  else (-1, r)
theorem ldV_av {N S b a : Nat} {W W6 Po V : Fn} (hN4 : 4 ≤ N) (hN : N ≤ 10) (h2 : two N b Po) (hW : ∀ d, d < N → W (d * S + b) = W6 (16 * d + b)) (ha : a < N - 2) (hav : nI b < Po (dk N a b)) : rVal N b W6 Po V a = W (dk N a b * S + b) := by
  obtain ⟨r1, r2⟩ := rvL_spec (S := S) (W := W) (W6 := W6) (V := V) hN4 hN hW h2 (N - 2) (Nat.le_refl _)
  unfold rVal
  rw [pk_un (by omega)]
  unfold rv3
  rw [pk_un (by omega)]
  have hb : (rvL N b W6 Po V (N - 2)).1 a = W (dk N a b * S + b) := by
    rw [r1 a ha]; unfold base; rw [if_pos hav]
  unfold rv2
  rcases r2 with ⟨h1, q2, h3⟩ | ⟨x, h1, h2', h3, h4, h5⟩ | ⟨x, y, h1, h2', h4, h5, h6, h7, h8⟩
  · rw [h3, q2, if_pos (by decide), if_pos (by decide)]; exact hb
  · have hx : x ≠ a := fun e => h2' (by rw [e]; exact hav)
    rw [h5, h4, if_pos (by decide), if_neg (nI_pos (by omega)), tn_nI (by omega), pk_un (Ne.symm hx)]; exact hb
  · have hx : x ≠ a := fun e => h4 (by rw [e]; exact hav)
    have hy : y ≠ a := fun e => h5 (by rw [e]; exact hav)
    rw [h8, h7, if_neg (nI_pos (by omega)), tn_nI (by omega), tn_nI (by omega), pk_un (Ne.symm hy), pk_un (Ne.symm hx)]; exact hb
theorem RR_scr {N S : Nat} {c : CS} {r : RS} (h : RR N S c r) {X Y : Fn} {m : Int32} : RR N S (sRc (sV c X) m) (tV (tRc r m) Y) := by
  obtain ⟨⟨h1, h2, h3, h4, h5, h6, h7, h8, h9⟩, hl, hp⟩ := h
  exact ⟨⟨h1, h2, h3, rfl, h5, h6, h7, h8, h9⟩, hl, hp⟩
theorem rd_eq {N S : Nat} {x : Int32} (hN4 : 4 ≤ N) (hN : N ≤ 10) (hS1 : 1 ≤ S) (hS : S ≤ 16) {c : CS} {r : RS} (h : RR N S c r) : (cRd N S x c).1 = (rRd N S x r).1 ∧ RR N S (cRd N S x c).2 (rRd N S x r).2 := by
  have hSN : S * (N - 2) ≤ 16 * 8 := Nat.mul_le_mul hS (by omega)
  unfold cRd rRd
  by_cases q : ¬ x < 0 ∧ ¬ nI (S * (N - 2)) ≤ x
  · rw [if_pos q, if_pos q, ← ref_eq h.1]
    obtain ⟨hx1, hx2⟩ := tn_of (by omega) q
    have hi : tn x % (N - 2) < N - 2 := Nat.mod_lt _ (by omega)
    have hs : tn x / (N - 2) < S := (Nat.div_lt_iff_lt_mul (by omega)).mpr hx1
    generalize tn x % (N - 2) = i at hi ⊢
    generalize tn x / (N - 2) = s at hs ⊢
    by_cases q2 : cRef N S c = 0
    · rw [if_pos q2, if_pos q2]
      have h8 : cP c = rP r := h.1.2.2.2.2.2.2.2.1
      have h2 := two_of hN4 hS hs (ref_0 q2).2
      have hW : ∀ d, d < N → cW c (d * S + s) = rW r (16 * d + s) := fun d hd => h.1.2.2.2.2.2.2.1 d s hd hs
      rw [rdk_c (show i < 8 by omega), ← h8]
      by_cases q3 : nI s < cP c (dk N i s)
      · rw [if_pos q3, if_pos q3]
        refine ⟨?_, ?_⟩
        · show un64 (cW c (dk N i s * S + s)) = un64 (rVal N s (rW r) (rP r) (rV r) i)
          rw [← h8, ldV_av hN4 hN h2 hW hi q3]
        · obtain ⟨⟨h1, h2, h3, h4, h5, h6, h7, h8, h9⟩, hl, hp⟩ := h
          exact ⟨⟨h1, h2, h3, by show cRc c + 1 = rRc r + 1; rw [h4], h5, h6, h7, h8, h9⟩, hl, hp⟩
      · rw [if_neg q3, if_neg q3]
        refine ⟨?_, ?_⟩
        · show un64 (ldV N S s (cW c) (cP c) (cV c) i) = un64 (rVal N s (rW r) (rP r) (rV r) i)
          rw [← h8, (val_eq (V := cV c) (V6 := rV r) hN4 hN hW h2).1 i hi]
        · obtain ⟨⟨h1, h2, h3, h4, h5, h6, h7, h8, h9⟩, hl, hp⟩ := h
          exact ⟨⟨h1, h2, h3, by show cRc c + _ = rRc r + _; rw [h4]; rfl, h5, h6, h7, h8, h9⟩, hl, hp⟩
    · rw [if_neg q2, if_neg q2]
      exact ⟨rfl, h⟩
  · rw [if_neg q, if_neg q]
    exact ⟨rfl, h⟩
-- writeRun
noncomputable def cWRun (N S : Nat) (x n v : Int32) (c : CS) : Int32 × CS :=
  if ¬ x < 0 ∧ ¬ nI (S * (N - 2)) ≤ x then
    (if n < 1 then (-1, c) else if nI (S * (N - 2) - tn x) < n then (-1, c) else
     if cRef N S c = 0 then
      (if (cRunL N S (tn x) (tn n) v ((tn x + tn n - 1) / (N - 2) + 1 - tn x / (N - 2)) (tn x / (N - 2)) (sMd c 0)).1 = false then (-4, (cRunL N S (tn x) (tn n) v ((tn x + tn n - 1) / (N - 2) + 1 - tn x / (N - 2)) (tn x / (N - 2)) (sMd c 0)).2)
       else (cMd (cRunL N S (tn x) (tn n) v ((tn x + tn n - 1) / (N - 2) + 1 - tn x / (N - 2)) (tn x / (N - 2)) (sMd c 0)).2, (cRunL N S (tn x) (tn n) v ((tn x + tn n - 1) / (N - 2) + 1 - tn x / (N - 2)) (tn x / (N - 2)) (sMd c 0)).2))
     else (cRef N S c, c))
  else (-1, c)
def rWRun (N S : Nat) (x n v : Int32) (r : RS) : Int32 × RS :=
  if ¬ x < 0 ∧ ¬ nI (S * (N - 2)) ≤ x then
    (if n < 1 then (-1, r) else if nI (S * (N - 2) - tn x) < n then (-1, r) else
     if rRef N S r = 0 then
      (if (rRunL N S (tn x) (tn n) v S 0 (tMd r 0)).1 = false then (-4, (rRunL N S (tn x) (tn n) v S 0 (tMd r 0)).2) else (rMd (rRunL N S (tn x) (tn n) v S 0 (tMd r 0)).2, (rRunL N S (tn x) (tn n) v S 0 (tMd r 0)).2))
     else (rRef N S r, r))
  else (-1, r)
theorem QJ_ans {N S : Nat} {P0 : Fn} {x : Bool × CS} {y : Bool × RS} (hP : RPos N S P0) (h : QJ (J0p N S P0) (J3p N S P0) x y) : x.1 = y.1 ∧ RR N S x.2 y.2 := by
  refine ⟨h.1, ?_⟩
  cases q : x.1 with
  | true =>
    obtain ⟨⟨h1, h2⟩, h3⟩ := h.2.1 q
    exact ⟨h1, Or.inl h2, by rw [h3]; exact hP⟩
  | false =>
    obtain ⟨⟨h1, h2, h4⟩, h3⟩ := h.2.2 q
    refine ⟨h1, ?_, by rw [h3]; exact hP⟩
    rcases h2 with z | z
    · exact Or.inl z
    · exact Or.inr ⟨z, h4⟩
theorem wrun_eq {N S : Nat} {x n v : Int32} (hN4 : 4 ≤ N) (hN : N ≤ 10) (hS1 : 1 ≤ S) (hS : S ≤ 16) {c : CS} {r : RS} (h : RR N S c r) : (cWRun N S x n v c).1 = (rWRun N S x n v r).1 ∧ RR N S (cWRun N S x n v c).2 (rWRun N S x n v r).2 := by
  have hSN : S * (N - 2) ≤ 16 * 8 := Nat.mul_le_mul hS (by omega)
  unfold cWRun rWRun
  by_cases q : ¬ x < 0 ∧ ¬ nI (S * (N - 2)) ≤ x
  · rw [if_pos q, if_pos q, ← ref_eq h.1]
    by_cases q1 : n < 1
    · rw [if_pos q1, if_pos q1]; exact ⟨rfl, h⟩
    rw [if_neg q1, if_neg q1]
    by_cases q2 : nI (S * (N - 2) - tn x) < n
    · rw [if_pos q2, if_pos q2]; exact ⟨rfl, h⟩
    rw [if_neg q2, if_neg q2]
    by_cases q3 : cRef N S c = 0
    · rw [if_pos q3, if_pos q3]
      obtain ⟨hx1, hx2⟩ := tn_of (by omega) q
      have hn0 : ¬ n < 0 := fun z => q1 (Int32.lt_trans z (by decide))
      obtain ⟨m, hm, rfl⟩ : ∃ m, m ≤ S * (N - 2) - tn x ∧ n = nI m := nI_of2 (nI_toInt (by omega)) hn0 (Int32.not_lt.mp q2)
      have tm : tn (nI m) = m := tn_nI (by omega)
      have hm1 : 1 ≤ m := by
        have z : ¬ m < 1 := fun w => q1 ((nI_ltI (a := m) (b := 1) (by omega) (by omega)).mpr w)
        omega
      rw [tm]
      obtain ⟨hd0, hb0⟩ := ref_0 q3
      have hj : J0p N S (cP c) (sMd c 0) (tMd r 0) := by
        obtain ⟨⟨h1, h2, h3, h4, h5, h6, h7, h8, h9⟩, hl, hp⟩ := h
        exact ⟨⟨⟨h1, h2, rfl, h4, h5, h6, h7, h8, h9⟩, log_up hl hd0⟩, rfl⟩
      have hq := run_eq (b := tn x) (n := m) (v := v) hN4 hN hS hm1 (by omega) (fun s hs => two_of hN4 hS hs hb0) hj
      obtain ⟨a1, a2⟩ := QJ_ans h.2.2 hq
      rw [← a1]
      split
      · exact ⟨rfl, a2⟩
      · exact ⟨a2.1.2.2.1, a2⟩
    · rw [if_neg q3, if_neg q3]; exact ⟨rfl, h⟩
  · rw [if_neg q, if_neg q]
    exact ⟨rfl, h⟩
-- fail, replace
def cFail (N : Nat) (x : Int32) (c : CS) : Bool × CS := if ¬ x < 0 ∧ ¬ nI N ≤ x then (if cP c (tn x) = -1 then (false, c) else (true, sP c (upd (cP c) (tn x) (-1)))) else (false, c)
def rFail (N : Nat) (x : Int32) (r : RS) : Bool × RS := if ¬ x < 0 ∧ ¬ nI N ≤ x then (if rP r (tn x) < 0 then (false, r) else (true, tP r (upd (rP r) (tn x) (-1)))) else (false, r)
def cRepl (N : Nat) (x : Int32) (c : CS) : Bool × CS := if ¬ x < 0 ∧ ¬ nI N ≤ x then (if cP c (tn x) = -1 then (if cLe c = 0 then (false, c) else (true, sP (sLe c (cLe c - 1)) (upd (cP (sLe c (cLe c - 1))) (tn x) 0))) else (false, c)) else (false, c)
def rRepl (N : Nat) (x : Int32) (r : RS) : Bool × RS := if ¬ x < 0 ∧ ¬ nI N ≤ x then (if rP r (tn x) < 0 then (if rLe r = 0 then (false, r) else (true, tLe (tP r (upd (rP r) (tn x) 0)) (rLe (tP r (upd (rP r) (tn x) 0)) - 1))) else (false, r)) else (false, r)
theorem pos_neg {N S d : Nat} {P : Fn} (hS : S ≤ 16) (h : RPos N S P) (hd : d < N) : P d < 0 ↔ P d = -1 := by
  rcases h d hd with q | ⟨k, hk, q⟩
  · rw [q]; decide
  · rw [q]; exact ⟨fun z => absurd z (nI_pos (by omega)), fun z => absurd z (nI_m1 (by omega))⟩
theorem pos_upd {N S d : Nat} {P : Fn} {y : Int32} (h : RPos N S P) (hy : y = -1 ∨ ∃ k, k ≤ S ∧ y = nI k) : RPos N S (upd P d y) := by
  intro a ha
  by_cases e : a = d
  · subst e; rw [pk_us]; exact hy
  · rw [pk_un e]; exact h a ha
theorem fail_eq {N S : Nat} {x : Int32} (hN4 : 4 ≤ N) (hN : N ≤ 10) (hS : S ≤ 16) {c : CS} {r : RS} (h : RR N S c r) : (cFail N x c).1 = (rFail N x r).1 ∧ RR N S (cFail N x c).2 (rFail N x r).2 := by
  unfold cFail rFail
  by_cases q : ¬ x < 0 ∧ ¬ nI N ≤ x
  · rw [if_pos q, if_pos q]
    obtain ⟨hx1, hx2⟩ := tn_of (by omega) q
    have h8 : cP c = rP r := h.1.2.2.2.2.2.2.2.1
    rw [← h8]
    have hn := pos_neg hS h.2.2 hx1
    by_cases q1 : cP c (tn x) = -1
    · rw [if_pos q1, if_pos (hn.mpr q1)]; exact ⟨rfl, h⟩
    · rw [if_neg q1, if_neg (fun z => q1 (hn.mp z))]
      obtain ⟨⟨h1, h2, h3, h4, h5, h6, h7, h8, h9⟩, hl, hp⟩ := h
      exact ⟨rfl, ⟨h1, h2, h3, h4, h5, h6, h7, rfl, h9⟩, hl, pos_upd hp (Or.inl rfl)⟩
  · rw [if_neg q, if_neg q]
    exact ⟨rfl, h⟩
theorem repl_eq {N S : Nat} {x : Int32} (hN4 : 4 ≤ N) (hN : N ≤ 10) (hS : S ≤ 16) {c : CS} {r : RS} (h : RR N S c r) : (cRepl N x c).1 = (rRepl N x r).1 ∧ RR N S (cRepl N x c).2 (rRepl N x r).2 := by
  unfold cRepl rRepl
  by_cases q : ¬ x < 0 ∧ ¬ nI N ≤ x
  · rw [if_pos q, if_pos q]
    obtain ⟨hx1, hx2⟩ := tn_of (by omega) q
    have h8 : cP c = rP r := h.1.2.2.2.2.2.2.2.1
    have hle : cLe c = rLe r := h.1.1
    rw [← h8, ← hle]
    have hn := pos_neg hS h.2.2 hx1
    by_cases q1 : cP c (tn x) = -1
    · rw [if_pos q1, if_pos (hn.mpr q1)]
      by_cases q2 : cLe c = 0
      · rw [if_pos q2, if_pos q2]; exact ⟨rfl, h⟩
      · rw [if_neg q2, if_neg q2]
        obtain ⟨⟨h1, h2, h3, h4, h5, h6, h7, h8, h9⟩, hl, hp⟩ := h
        exact ⟨rfl, ⟨by show cLe c - 1 = rLe r - 1; rw [h1], h2, h3, h4, h5, h6, h7, rfl, h9⟩, hl, pos_upd hp (Or.inr ⟨0, by omega, rfl⟩)⟩
    · rw [if_neg q1, if_neg (fun z => q1 (hn.mp z))]; exact ⟨rfl, h⟩
  · rw [if_neg q, if_neg q]
    exact ⟨rfl, h⟩
