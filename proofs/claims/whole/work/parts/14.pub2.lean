/-! rebuild, scrub, faults, restart and the small ones -/
-- which disk is next
def rnx (P : Fn) (S N : Nat) : Nat → Int32
  | 0 => -1
  | j + 1 => if (0 ≤ P (N - 1 - j) ∧ P (N - 1 - j) < nI S) ∧ (rnx P S N j < 0 ∨ P (N - 1 - j) ≤ P (tn (rnx P S N j))) then nI (N - 1 - j) else rnx P S N j
def busy (P : Fn) (S a : Nat) : Prop := 0 ≤ P a ∧ P a < nI S
/-- d is the first of the least positions among the busy disks from lo to hi - 1 -/
def AM (P : Fn) (S lo hi : Nat) (d : Int32) : Prop := ((∀ a, lo ≤ a → a < hi → ¬ busy P S a) ∧ d = -1) ∨ (∃ x, lo ≤ x ∧ x < hi ∧ busy P S x ∧ d = nI x ∧ (∀ a, lo ≤ a → a < hi → busy P S a → P x ≤ P a) ∧ (∀ a, lo ≤ a → a < x → busy P S a → P x < P a))
theorem AM_one {P : Fn} {S lo hi : Nat} {d d' : Int32} (h : AM P S lo hi d) (h' : AM P S lo hi d') : d = d' := by
  rcases h with ⟨h1, h2⟩ | ⟨x, h1, h2, h3, h4, h5, h6⟩ <;> rcases h' with ⟨k1, k2⟩ | ⟨y, k1, k2, k3, k4, k5, k6⟩
  · rw [h2, k2]
  · exact absurd k3 (h1 y k1 k2)
  · exact absurd h3 (k1 x h1 h2)
  · rcases Nat.lt_trichotomy x y with q | q | q
    · exact absurd (h5 y k1 k2 k3) (Int32.not_le.mpr (k6 x h1 q h3))
    · rw [h4, k4, q]
    · exact absurd (k5 x h1 h2 h3) (Int32.not_le.mpr (h6 y k1 q k3))
theorem nxt_AM {P : Fn} {S N : Nat} (hS : S ≤ 16) (hN : N ≤ 10) (hP : RPos N S P) : ∀ n, n ≤ N → AM P S 0 n (nxt P S n).1 ∧ (((nxt P S n).1 = -1 ∧ (nxt P S n).2 = nI S) ∨ ∃ x, x < n ∧ (nxt P S n).1 = nI x ∧ (nxt P S n).2 = P x) := by
  intro n
  induction n with
  | zero => intro _; exact ⟨Or.inl ⟨fun a _ h => absurd h (by omega), rfl⟩, Or.inl ⟨rfl, rfl⟩⟩
  | succ n ih =>
    intro hn
    obtain ⟨i1, i2⟩ := ih (by omega)
    have bz : busy P S n ↔ ¬ P n = -1 ∧ P n < nI S := by
      rcases hP n (by omega) with q | ⟨k, hk, q⟩
      · exact ⟨fun z => absurd z.1 (by rw [q]; decide), fun z => absurd q z.1⟩
      · exact ⟨fun z => ⟨by rw [q]; exact nI_m1 (by omega), z.2⟩, fun z => ⟨by rw [q]; exact nI_pos' (by omega), z.2⟩⟩
    show AM P S 0 (n + 1) (if P n = -1 then nxt P S n else if P n < (nxt P S n).2 then (nI n, P n) else nxt P S n).1 ∧ (((if P n = -1 then nxt P S n else if P n < (nxt P S n).2 then (nI n, P n) else nxt P S n).1 = -1 ∧ (if P n = -1 then nxt P S n else if P n < (nxt P S n).2 then (nI n, P n) else nxt P S n).2 = nI S) ∨ ∃ x, x < n + 1 ∧ (if P n = -1 then nxt P S n else if P n < (nxt P S n).2 then (nI n, P n) else nxt P S n).1 = nI x ∧ (if P n = -1 then nxt P S n else if P n < (nxt P S n).2 then (nI n, P n) else nxt P S n).2 = P x)
    have keep : (busy P S n → ∀ x, x < n → (nxt P S n).1 = nI x → P x ≤ P n) → (busy P S n → ¬ (nxt P S n).1 = -1) → AM P S 0 (n + 1) (nxt P S n).1 ∧ (((nxt P S n).1 = -1 ∧ (nxt P S n).2 = nI S) ∨ ∃ x, x < n + 1 ∧ (nxt P S n).1 = nI x ∧ (nxt P S n).2 = P x) := by
      intro k1 k2
      refine ⟨?_, ?_⟩
      · rcases i1 with ⟨h1, h2⟩ | ⟨x, h1, h2, h3, h4, h5, h6⟩
        · refine Or.inl ⟨fun a h0 ha hb => ?_, h2⟩
          rcases Nat.lt_or_ge a n with z | z
          · exact h1 a h0 z hb
          · have : a = n := by omega
            subst this; exact k2 hb h2
        · refine Or.inr ⟨x, h1, by omega, h3, h4, fun a h0 ha hb => ?_, h6⟩
          rcases Nat.lt_or_ge a n with z | z
          · exact h5 a h0 z hb
          · have : a = n := by omega
            subst this; exact k1 hb x h2 h4
      · rcases i2 with z | ⟨x, h1, h2, h3⟩
        · exact Or.inl z
        · exact Or.inr ⟨x, by omega, h2, h3⟩
    by_cases q : P n = -1
    · rw [if_pos q]
      exact keep (fun z => absurd q (bz.mp z).1) (fun z => absurd q (bz.mp z).1)
    · rw [if_neg q]
      by_cases q2 : P n < (nxt P S n).2
      · rw [if_pos q2]
        have hlt : P n < nI S := by
          rcases i2 with ⟨-, z⟩ | ⟨x, h1, h2, h3⟩
          · rw [z] at q2; exact q2
          · rcases i1 with ⟨g1, g2⟩ | ⟨y, g1, g2, g3, g4, g5, g6⟩
            · exact absurd (g2.symm.trans h2).symm (nI_m1 (by omega))
            · have e : x = y := (nI_eq (by omega) (by omega)).mp (h2.symm.trans g4)
              subst e
              rw [h3] at q2
              exact Int32.lt_trans q2 g3.2
        refine ⟨Or.inr ⟨n, by omega, by omega, bz.mpr ⟨q, hlt⟩, rfl, fun a h0 ha hb => ?_, fun a h0 ha hb => ?_⟩, Or.inr ⟨n, by omega, rfl, rfl⟩⟩
        · rcases Nat.lt_or_ge a n with z | z
          · rcases i1 with ⟨g1, g2⟩ | ⟨y, g1, g2, g3, g4, g5, g6⟩
            · exact absurd hb (g1 a h0 z)
            · rcases i2 with ⟨z1, z2⟩ | ⟨x, h1, h2, h3⟩
              · exact absurd (g4.symm.trans z1) (nI_m1 (by omega))
              · have e : x = y := (nI_eq (by omega) (by omega)).mp (h2.symm.trans g4)
                subst e
                rw [h3] at q2
                exact Int32.le_trans (Int32.le_of_lt q2) (g5 a h0 z hb)
          · have : a = n := by omega
            subst this; exact Int32.le_refl _
        · rcases i1 with ⟨g1, g2⟩ | ⟨y, g1, g2, g3, g4, g5, g6⟩
          · exact absurd hb (g1 a h0 ha)
          · rcases i2 with ⟨z1, z2⟩ | ⟨x, h1, h2, h3⟩
            · exact absurd (g4.symm.trans z1) (nI_m1 (by omega))
            · have e : x = y := (nI_eq (by omega) (by omega)).mp (h2.symm.trans g4)
              subst e
              rw [h3] at q2
              exact Int32.lt_of_lt_of_le q2 (g5 a h0 ha hb)
      · rw [if_neg q2]
        refine keep (fun hb x hx hxe => ?_) (fun hb he => ?_)
        · rcases i2 with ⟨z1, z2⟩ | ⟨y, h1, h2, h3⟩
          · exact absurd (hxe.symm.trans z1) (nI_m1 (by omega))
          · have e : y = x := (nI_eq (by omega) (by omega)).mp (h2.symm.trans hxe)
            subst e
            rw [h3] at q2
            exact Int32.not_lt.mp q2
        · rcases i2 with ⟨z1, z2⟩ | ⟨y, h1, h2, h3⟩
          · rw [z2] at q2; exact q2 hb.2
          · exact absurd (h2.symm.trans he) (nI_m1 (by omega))
theorem rnx_AM {P : Fn} {S N : Nat} (hN : N ≤ 10) : ∀ j, j ≤ N → AM P S (N - j) N (rnx P S N j) := by
  intro j
  induction j with
  | zero => intro _; exact Or.inl ⟨fun a h1 h2 => absurd h2 (by omega), rfl⟩
  | succ j ih =>
    intro hj
    have i1 := ih (by omega)
    have e0 : N - (j + 1) = N - 1 - j := by omega
    rw [e0]
    show AM P S (N - 1 - j) N (if (0 ≤ P (N - 1 - j) ∧ P (N - 1 - j) < nI S) ∧ (rnx P S N j < 0 ∨ P (N - 1 - j) ≤ P (tn (rnx P S N j))) then nI (N - 1 - j) else rnx P S N j)
    by_cases q : (0 ≤ P (N - 1 - j) ∧ P (N - 1 - j) < nI S) ∧ (rnx P S N j < 0 ∨ P (N - 1 - j) ≤ P (tn (rnx P S N j)))
    · rw [if_pos q]
      refine Or.inr ⟨N - 1 - j, Nat.le_refl _, by omega, q.1, rfl, fun a h0 ha hb => ?_, fun a h0 ha hb => absurd ha (by omega)⟩
      rcases Nat.lt_or_ge (N - 1 - j) a with z | z
      · rcases i1 with ⟨g1, g2⟩ | ⟨y, g1, g2, g3, g4, g5, g6⟩
        · exact absurd hb (g1 a (by omega) ha)
        · have hle : P (N - 1 - j) ≤ P y := by
            rcases q.2 with w | w
            · rw [g4] at w; exact absurd w (nI_pos (by omega))
            · rw [g4, tn_nI (by omega)] at w; exact w
          exact Int32.le_trans hle (g5 a (by omega) ha hb)
      · have : a = N - 1 - j := by omega
        subst this; exact Int32.le_refl _
    · rw [if_neg q]
      rcases i1 with ⟨g1, g2⟩ | ⟨y, g1, g2, g3, g4, g5, g6⟩
      · refine Or.inl ⟨fun a h0 ha hb => ?_, g2⟩
        rcases Nat.lt_or_ge (N - 1 - j) a with z | z
        · exact g1 a (by omega) ha hb
        · have : a = N - 1 - j := by omega
          subst this
          exact q ⟨hb, Or.inl (by rw [g2]; decide)⟩
      · have hgt : busy P S (N - 1 - j) → P y < P (N - 1 - j) := fun hb => by
          refine Int32.not_le.mp (fun w => q ⟨hb, Or.inr ?_⟩)
          rw [g4, tn_nI (by omega)]; exact w
        refine Or.inr ⟨y, by omega, g2, g3, g4, fun a h0 ha hb => ?_, fun a h0 ha hb => ?_⟩
        · rcases Nat.lt_or_ge (N - 1 - j) a with z | z
          · exact g5 a (by omega) ha hb
          · have : a = N - 1 - j := by omega
            subst this; exact Int32.le_of_lt (hgt hb)
        · rcases Nat.lt_or_ge (N - 1 - j) a with z | z
          · exact g6 a (by omega) ha hb
          · have : a = N - 1 - j := by omega
            subst this; exact hgt hb
theorem nx_eq {P : Fn} {S N : Nat} (hS : S ≤ 16) (hN : N ≤ 10) (hP : RPos N S P) : (nxt P S N).1 = rnx P S N N := by
  have h := rnx_AM (P := P) (S := S) hN N (Nat.le_refl _)
  rw [Nat.sub_self] at h
  exact AM_one (nxt_AM hS hN hP N (Nat.le_refl _)).1 h
-- rebuild
def cRb2 (N S d b : Nat) (c : CS) : Int32 × CS := if (cBeg c).1 = false then (-4, (cBeg c).2) else (nI S - cP (sP (cBeg c).2 (upd (cP (cBeg c).2) d (cP (cBeg c).2 d + 1))) d, sP (cBeg c).2 (upd (cP (cBeg c).2) d (cP (cBeg c).2 d + 1)))
def cRb1 (N S d b : Nat) (c : CS) : Int32 × CS := if (cWr S d b (cV (cRA N S b c) (slt N d b)) (cRA N S b c)).1 = false then (-4, (cWr S d b (cV (cRA N S b c) (slt N d b)) (cRA N S b c)).2) else cRb2 N S d b (cWr S d b (cV (cRA N S b c) (slt N d b)) (cRA N S b c)).2
def cRb (N S : Nat) (c : CS) : Int32 × CS := if cRef N S c = 0 then (if (nxt (cP c) S N).1 = -1 then (-5, c) else cRb1 N S (tn (nxt (cP c) S N).1) (tn (cP c (tn (nxt (cP c) S N).1))) c) else (cRef N S c, c)
/-- the value on disk d, of the parts' values V -/
def rvO (N d b : Nat) (V : Fn) : Nat → Int32
  | 0 => 0
  | j + 1 => if (8 ≤ j ∨ j < N - 2) ∧ rdk N j b = d then V j else rvO N d b V j
def rRA (N b : Nat) (r : RS) : RS := rRV N b (tRc r (rRc r + nI (cntA (rP r) (nI b) N)))
def rRb2 (N S d b : Nat) (r : RS) : Int32 × RS := if (rAct r).1 = false then (-4, (rAct r).2) else (nI (S - 1 - b), tP (rAct r).2 (upd (rP (rAct r).2) d (nI (b + 1))))
def rRb1 (N S d b : Nat) (r : RS) : Int32 × RS := if (rAct (rRA N b r)).1 = false then (-4, (rAct (rRA N b r)).2) else rRb2 N S d b (rPut (16 * d + b) (rvO N d b (rV (rAct (rRA N b r)).2) 10) (rAct (rRA N b r)).2)
def rRb (N S : Nat) (r : RS) : Int32 × RS := if rRef N S r = 0 then (if rnx (rP r) S N N < 0 then (-5, r) else rRb1 N S (tn (rnx (rP r) S N N)) (tn (rP r (tn (rnx (rP r) S N N)))) r) else (rRef N S r, r)
theorem rvO_eq {N d b : Nat} {V L : Fn} (hN4 : 4 ≤ N) (hN : N ≤ 10) (hd : d < N) (hc : ∀ a, a < N - 2 → V a = L a) (h8 : V 8 = L (N - 2)) (h9 : V 9 = L (N - 1)) : rvO N d b V 10 = L (slt N d b) := by
  have hs : slt N d b < N := slt_lt (by omega)
  have hk : dk N (slt N d b) b = d := slt_dk hN4 hd
  generalize slt N d b = a at hs hk ⊢
  have uniq : ∀ a', a' < N → dk N a' b = d → a' = a := fun a' h1 h2 => dk_inj hN4 h1 hs (h2.trans hk.symm)
  have miss : ∀ n, n ≤ 8 → (a < N - 2 → n ≤ a) → rvO N d b V n = 0 := by
    intro n
    induction n with
    | zero => intro _ _; rfl
    | succ n ih =>
      intro hn ha
      show (if (8 ≤ n ∨ n < N - 2) ∧ rdk N n b = d then V n else rvO N d b V n) = 0
      rw [if_neg, ih (by omega) (fun q => by have := ha q; omega)]
      intro q
      have hn2 : n < N - 2 := by omega
      have e := uniq n (by omega) (by rw [← rdk_c (by omega)]; exact q.2)
      have := ha (by omega)
      omega
  have stay : ∀ m n, a < N - 2 → a + 1 + m = n → n ≤ 8 → rvO N d b V n = V a := by
    intro m
    induction m with
    | zero =>
      intro n ha hn hn8
      subst hn
      show (if (8 ≤ a ∨ a < N - 2) ∧ rdk N a b = d then V a else rvO N d b V a) = V a
      rw [if_pos ⟨Or.inr ha, by rw [rdk_c (by omega)]; exact hk⟩]
    | succ m ih =>
      intro n ha hn hn8
      obtain ⟨n', rfl⟩ : ∃ n', n = n' + 1 := ⟨n - 1, by omega⟩
      show (if (8 ≤ n' ∨ n' < N - 2) ∧ rdk N n' b = d then V n' else rvO N d b V n') = V a
      rw [if_neg, ih n' ha (by omega) (by omega)]
      intro q
      have e := uniq n' (by omega) (by rw [← rdk_c (by omega)]; exact q.2)
      omega
  show (if (8 ≤ 9 ∨ 9 < N - 2) ∧ rdk N 9 b = d then V 9 else (if (8 ≤ 8 ∨ 8 < N - 2) ∧ rdk N 8 b = d then V 8 else rvO N d b V 8)) = L a
  rw [rdk_Q hN4, rdk_P hN4]
  rcases (show a = N - 1 ∨ a = N - 2 ∨ a < N - 2 by omega) with q | q | q
  · subst q
    rw [if_pos ⟨Or.inl (by decide), hk⟩, h9]
  · rw [if_neg (fun z => by have := uniq (N - 1) (by omega) z.2; omega)]
    subst q
    rw [if_pos ⟨Or.inl (by decide), hk⟩, h8]
  · rw [if_neg (fun z => by have := uniq (N - 1) (by omega) z.2; omega), if_neg (fun z => by have := uniq (N - 2) (by omega) z.2; omega), stay (8 - (a + 1)) 8 q (by omega) (Nat.le_refl _), hc a q]
theorem J0_act {N S : Nat} {P0 : Fn} {c : CS} {r : RS} (h : J0p N S P0 c r) : QJ (J0p N S P0) (J3p N S P0) (cBeg c) (rAct r) := by
  obtain ⟨⟨h1, h2⟩, h3⟩ := h
  obtain ⟨a1, a2⟩ := RA_act h1
  have hc := lgc_beg c
  have hr := lgr_act r
  simp only [lgc, lgr, Prod.mk.injEq] at hc hr
  obtain ⟨b1, b2, b3, b4, b5, b6⟩ := hc
  obtain ⟨d1, d2, d3, d4, d5, d6⟩ := hr
  have h2' : cLs (cBeg c).2 = -1 ∧ rLs (rAct r).2 = -1 := by rw [b1, d1]; exact h2
  exact ⟨a1, fun _ => ⟨⟨a2, h2'⟩, by rw [b5]; exact h3⟩, fun q => ⟨⟨a2, Or.inl h2', beg_dn q⟩, by rw [b5]; exact h3⟩⟩
theorem RR_of0 {N S : Nat} {P0 : Fn} {c : CS} {r : RS} (hP : RPos N S P0) (h : J0p N S P0 c r) : RR N S c r := ⟨h.1.1, Or.inl h.1.2, by rw [h.2]; exact hP⟩
theorem RR_of3 {N S : Nat} {P0 : Fn} {c : CS} {r : RS} (hP : RPos N S P0) (h : J3p N S P0 c r) : RR N S c r := by
  obtain ⟨⟨h1, h2, h4⟩, h3⟩ := h
  refine ⟨h1, ?_, by rw [h3]; exact hP⟩
  rcases h2 with z | z
  · exact Or.inl z
  · exact Or.inr ⟨z, h4⟩
theorem rb_eq {N S : Nat} (hN4 : 4 ≤ N) (hN : N ≤ 10) (hS1 : 1 ≤ S) (hS : S ≤ 16) {c : CS} {r : RS} (h : RR N S c r) : (cRb N S c).1 = (rRb N S r).1 ∧ RR N S (cRb N S c).2 (rRb N S r).2 := by
  unfold cRb rRb
  rw [← ref_eq h.1]
  by_cases q : cRef N S c = 0
  · rw [if_pos q, if_pos q]
    have h8 : cP c = rP r := h.1.2.2.2.2.2.2.2.1
    rw [← h8, ← nx_eq hS hN h.2.2]
    rcases (nxt_AM hS hN h.2.2 N (Nat.le_refl _)).1 with ⟨g1, g2⟩ | ⟨d, -, g2, g3, g4, g5, g6⟩
    · rw [if_pos g2, if_pos (by rw [g2]; decide)]
      exact ⟨rfl, h⟩
    · rw [if_neg (by rw [g4]; exact nI_m1 (by omega)), if_neg (by rw [g4]; exact nI_pos (by omega)), g4, tn_nI (by omega)]
      obtain ⟨b, hb, eb⟩ : ∃ b, b < S ∧ cP c d = nI b := by
        rcases h.2.2 d g2 with z | ⟨k, hk, z⟩
        · exact absurd g3.1 (by rw [z]; decide)
        · refine ⟨k, ?_, z⟩
          have := g3.2
          rw [z] at this
          exact (nI_ltI (by omega) (by omega)).mp this
      rw [eb, tn_nI (by omega)]
      obtain ⟨hd0, hb0⟩ := ref_0 q
      have h2 := two_of hN4 hS hb hb0
      obtain ⟨v1, v2, v3⟩ := val_eq (V := cV c) (V6 := rV r) hN4 hN (fun d hd => h.1.2.2.2.2.2.2.1 d b hd hb) h2
      have hj : J0p N S (cP c) (cRA N S b c) (rRA N b r) := by
        obtain ⟨⟨h1, h2, h3, h4, h5, h6, h7, h8, h9⟩, hl, hp⟩ := h
        refine ⟨⟨⟨h1, h2, h3, ?_, h5, h6, h7, h8, h9⟩, log_up hl hd0⟩, rfl⟩
        show cRc c + nI (cntA (cP c) (nI b) N) = rRc r + nI (cntA (rP r) (nI b) N)
        rw [h4, h8]
      have ev : rvO N d b (rV (rAct (rRA N b r)).2) 10 = cV (cRA N S b c) (slt N d b) := by
        have hr := lgr_act (rRA N b r)
        simp only [lgr, Prod.mk.injEq] at hr
        rw [hr.2.2.2.2.2]
        show rvO N d b (rVal N b (rW r) (rP r) (rV r)) 10 = ldV N S b (cW c) (cP c) (cV c) (slt N d b)
        rw [← h8]
        exact rvO_eq hN4 hN g2 v1 v2 v3
      unfold cRb1 rRb1
      rw [ev]
      generalize cV (cRA N S b c) (slt N d b) = w
      have a1 := J0_act hj
      unfold cWr
      by_cases q1 : (cBeg (cRA N S b c)).1 = false
      · rw [if_pos q1, if_pos rfl, if_pos (a1.1 ▸ q1)]
        exact ⟨rfl, RR_of3 h.2.2 (a1.2.2 q1)⟩
      · have q1t : (cBeg (cRA N S b c)).1 = true := by revert q1; cases (cBeg (cRA N S b c)).1 <;> simp
        rw [if_neg q1, if_neg (by simp), if_neg (fun z => q1 (a1.1.trans z))]
        have hj2 : J0p N S (cP c) (cPut S d b w (cBeg (cRA N S b c)).2) (rPut (16 * d + b) w (rAct (rRA N b r)).2) := by
          obtain ⟨⟨y1, y2⟩, y3⟩ := a1.2.1 q1t
          exact ⟨⟨RA_put g2 hb hS y1, y2⟩, y3⟩
        show (cRb2 N S d b (cPut S d b w (cBeg (cRA N S b c)).2)).1 = (rRb2 N S d b (rPut (16 * d + b) w (rAct (rRA N b r)).2)).1 ∧ RR N S (cRb2 N S d b (cPut S d b w (cBeg (cRA N S b c)).2)).2 (rRb2 N S d b (rPut (16 * d + b) w (rAct (rRA N b r)).2)).2
        generalize cPut S d b w (cBeg (cRA N S b c)).2 = c2 at hj2 ⊢
        generalize rPut (16 * d + b) w (rAct (rRA N b r)).2 = r2 at hj2 ⊢
        have a2 := J0_act hj2
        unfold cRb2 rRb2
        by_cases q2 : (cBeg c2).1 = false
        · rw [if_pos q2, if_pos (a2.1 ▸ q2)]
          exact ⟨rfl, RR_of3 h.2.2 (a2.2.2 q2)⟩
        · have q2t : (cBeg c2).1 = true := by revert q2; cases (cBeg c2).1 <;> simp
          rw [if_neg q2, if_neg (fun z => q2 (a2.1.trans z))]
          obtain ⟨⟨⟨h1, h2, h3, h4, h5, h6, h7, h8', h9⟩, hl⟩, hp⟩ := a2.2.1 q2t
          have ed : cP (cBeg c2).2 d + 1 = nI (b + 1) := by rw [hp, eb]; exact nI_1 b
          refine ⟨?_, ⟨h1, h2, h3, h4, h5, h6, h7, ?_, h9⟩, Or.inl hl, ?_⟩
          · show nI S - upd (cP (cBeg c2).2) d (cP (cBeg c2).2 d + 1) d = nI (S - 1 - b)
            rw [pk_us, ed, pk_sub (by omega)]
            congr 1
            omega
          · show upd (cP (cBeg c2).2) d (cP (cBeg c2).2 d + 1) = upd (rP (rAct r2).2) d (nI (b + 1))
            rw [ed, h8']
          · show RPos N S (upd (cP (cBeg c2).2) d (cP (cBeg c2).2 d + 1))
            rw [ed, hp]
            exact pos_upd h.2.2 (Or.inr ⟨b + 1, by omega, rfl⟩)
  · rw [if_neg q, if_neg q]
    exact ⟨rfl, h⟩
