/-! writeRun: the class goes from the first stripe to the last, the reference over all of them -/
noncomputable def cRunL (N S b n : Nat) (v : Int32) : Nat → Nat → CS → Bool × CS
  | 0, _, c => (true, c)
  | k + 1, s, c => if (cWC N S s (max b (s * (N - 2)) - s * (N - 2)) (min (b + n) (s * (N - 2) + (N - 2)) - max b (s * (N - 2))) (v + nI (max b (s * (N - 2)) - b)) c).1 = false then (false, (cWC N S s (max b (s * (N - 2)) - s * (N - 2)) (min (b + n) (s * (N - 2) + (N - 2)) - max b (s * (N - 2))) (v + nI (max b (s * (N - 2)) - b)) c).2)
      else cRunL N S b n v k (s + 1) (cWC N S s (max b (s * (N - 2)) - s * (N - 2)) (min (b + n) (s * (N - 2) + (N - 2)) - max b (s * (N - 2))) (v + nI (max b (s * (N - 2)) - b)) c).2
def rLst (N b n s : Nat) : Int32 := if b + n < s * (N - 2) + (N - 2) then nI (b + n) - nI (s * (N - 2)) else nI (N - 2)
def rRunL (N S b n : Nat) (v : Int32) : Nat → Nat → RS → Bool × RS
  | 0, _, r => (true, r)
  | k + 1, s, r => if nI (b - s * (N - 2)) < rLst N b n s then
      (if (rWS N s (b - s * (N - 2)) (tn (rLst N b n s)) (v + nI (s * (N - 2) + (b - s * (N - 2)) - b)) r).1 = false then (false, (rWS N s (b - s * (N - 2)) (tn (rLst N b n s)) (v + nI (s * (N - 2) + (b - s * (N - 2)) - b)) r).2)
       else rRunL N S b n v k (s + 1) (rWS N s (b - s * (N - 2)) (tn (rLst N b n s)) (v + nI (s * (N - 2) + (b - s * (N - 2)) - b)) r).2)
      else rRunL N S b n v k (s + 1) r
-- positions stay
theorem cP_beg (c : CS) : cP (cBeg c).2 = cP c := by
  have h := lgc_beg c
  simp only [lgc, Prod.mk.injEq] at h
  exact h.2.2.2.2.1
theorem cP_wr (S a b : Nat) (w : Int32) (c : CS) : cP (cWr S a b w c).2 = cP c := by
  unfold cWr
  split
  · exact cP_beg c
  · exact cP_beg c
theorem cP_carL (N S b k : Nat) (c : CS) : cP (cCarL N S b k c).2 = cP c := by
  induction k generalizing c with
  | zero => rfl
  | succ k ih =>
    rw [cCarL_s]
    have hs : cP (cSt N S (N - (k + 1)) b (cX c (N - (k + 1))) c).2 = cP c := by
      unfold cSt
      split
      · exact cP_wr ..
      · rfl
    split
    · split
      · exact hs
      · rw [ih]; exact hs
    · exact ih c
theorem cP_car (N S b : Nat) (c : CS) : cP (cCar N S b c).2 = cP c := by
  have h1 := cP_carL N S b N c
  have h2 := cP_beg (cCarL N S b N c).2
  unfold cCar
  generalize cCarL N S b N c = x at h1 h2 ⊢
  generalize cBeg x.2 = y at h2 ⊢
  split
  · exact h1
  · split
    · exact h2.trans h1
    · exact h2.trans h1
theorem cP_acts (k : Nat) (c : CS) : cP (cActs k c).2 = cP c := by
  have h := lgc_acts k c
  simp only [lgc, Prod.mk.injEq] at h
  exact h.2.2.2.2.1
theorem cP_log (N b f k : Nat) (c : CS) : cP (cLog N b f k c).2 = cP c := by
  have h1 := cP_acts (k + 2) c
  have h2 := cP_beg (cActs (k + 2) c).2
  unfold cLog
  generalize cActs (k + 2) c = x at h1 h2 ⊢
  generalize cBeg x.2 = y at h2 ⊢
  split
  · exact h1
  · split
    · exact h2.trans h1
    · exact h2.trans h1
theorem cP_col (N S b f k : Nat) (v : Int32) (c : CS) : cP (cCol N S b f k v c) = cP c := by
  unfold cCol
  split
  · split <;> rfl
  · rfl
theorem cP_WC (N S b f k : Nat) (v : Int32) (c : CS) : cP (cWC N S b f k v c).2 = cP c := by
  have h1 := cP_col N S b f k v c
  have h2 := cP_log N b f k (cCol N S b f k v c)
  have h3 := cP_car N S b (cLog N b f k (cCol N S b f k v c)).2
  unfold cWC
  generalize cCol N S b f k v c = x at h1 h2 h3 ⊢
  generalize cLog N b f k x = y at h2 h3 ⊢
  split
  · exact h2.trans h1
  · exact h3.trans (h2.trans h1)
def J0p (N S : Nat) (P0 : Fn) (c : CS) (r : RS) : Prop := J0 N S c r ∧ cP c = P0
def J3p (N S : Nat) (P0 : Fn) (c : CS) (r : RS) : Prop := J3f N S c r ∧ cP c = P0
theorem ws_eqp {N S b f e : Nat} {v : Int32} {P0 : Fn} (hN4 : 4 ≤ N) (hN : N ≤ 10) (hS : S ≤ 16) (hb : b < S) (he : e ≤ N - 2) (hfe : f ≤ e) (h2 : two N b P0) {c : CS} {r : RS} (h : J0p N S P0 c r) : QJ (J0p N S P0) (J3p N S P0) (cWC N S b f (e - f) v c) (rWS N b f e v r) := by
  obtain ⟨h1, h3⟩ := h
  have hw := ws_eq (v := v) hN4 hN hS hb he hfe (by rw [h3]; exact h2) h1
  have hp : cP (cWC N S b f (e - f) v c).2 = P0 := (cP_WC ..).trans h3
  exact ⟨hw.1, fun q => ⟨hw.2.1 q, hp⟩, fun q => ⟨hw.2.2 q, hp⟩⟩
section Run
variable {N S b n : Nat} {v : Int32} {P0 : Fn}
theorem rLst_small {s : Nat} (hN4 : 4 ≤ N) (hN : N ≤ 10) (hb : b + n < 2 ^ 20) (hs : s * (N - 2) < 2 ^ 20) (h : s * (N - 2) ≤ b + n) : rLst N b n s = nI (min (b + n) (s * (N - 2) + (N - 2)) - s * (N - 2)) := by
  unfold rLst
  by_cases q : b + n < s * (N - 2) + (N - 2)
  · rw [if_pos q, pk_sub h, Nat.min_eq_left (by omega)]
  · rw [if_neg q, Nat.min_eq_right (by omega)]
    congr 1
    omega
/-- a stripe that the run doesn't reach -/
theorem rRun_skip {k s : Nat} {r : RS} (hN4 : 4 ≤ N) (hN : N ≤ 10) (hb : b + n < 2 ^ 20) (hs : s * (N - 2) < 2 ^ 20) (h : s * (N - 2) + (N - 2) ≤ b ∨ b + n ≤ s * (N - 2)) : rRunL N S b n v (k + 1) s r = rRunL N S b n v k (s + 1) r := by
  show (if nI (b - s * (N - 2)) < rLst N b n s then _ else _) = _
  rw [if_neg]
  intro q
  rcases h with h | h
  · rw [rLst_small hN4 hN hb hs (by omega), nI_ltI (by omega) (by omega)] at q
    omega
  · by_cases h2 : b + n = s * (N - 2)
    · rw [rLst_small hN4 hN hb hs (by omega), nI_ltI (by omega) (by omega)] at q
      omega
    · have e : rLst N b n s = nI (b + n) - nI (s * (N - 2)) := by unfold rLst; rw [if_pos (by omega)]
      have h3 : nI (b + n) - nI (s * (N - 2)) < 0 := pk_sneg (by omega) (by omega)
      rw [e] at q
      have h4 := Int32.lt_trans q h3
      exact absurd h4 (nI_pos (by omega))
theorem run_mid (hN4 : 4 ≤ N) (hN : N ≤ 10) (hS : S ≤ 16) (hn : 1 ≤ n) (hbn : b + n ≤ S * (N - 2)) (h2 : ∀ s, s < S → two N s P0) : ∀ (j : Nat) (k s : Nat) (c : CS) (r : RS), s + j = (b + n - 1) / (N - 2) + 1 → b / (N - 2) ≤ s → s + k = S → J0p N S P0 c r → QJ (J0p N S P0) (J3p N S P0) (cRunL N S b n v j s c) (rRunL N S b n v k s r) := by
  have hSN : S * (N - 2) ≤ 16 * 8 := Nat.mul_le_mul hS (by omega)
  have hm : 0 < N - 2 := by omega
  intro j
  induction j with
  | zero =>
    intro k s c r hj hs hk h
    have key : ∀ (k s : Nat), (b + n - 1) / (N - 2) < s → s + k = S → rRunL N S b n v k s r = (true, r) := by
      intro k
      induction k with
      | zero => intro s _ _; rfl
      | succ k ih =>
        intro s hs hk
        have h3 : b + n ≤ s * (N - 2) := by
          have := (Nat.div_lt_iff_lt_mul hm).mp hs
          omega
        have h4 : s * (N - 2) ≤ S * (N - 2) := Nat.mul_le_mul_right _ (by omega)
        rw [rRun_skip hN4 hN (by omega) (by omega) (Or.inr h3)]
        exact ih (s + 1) (by omega) (by omega)
    rw [key k s (by omega) hk]
    exact QJ_true h
  | succ j ih =>
    intro k s c r hj hs hk h
    have hle : s ≤ (b + n - 1) / (N - 2) := by omega
    have h3 : s * (N - 2) ≤ b + n - 1 := (Nat.le_div_iff_mul_le hm).mp hle
    have h4 : b < s * (N - 2) + (N - 2) := by
      have := Nat.lt_succ_of_le hs
      have := (Nat.div_lt_iff_lt_mul hm).mp this
      rw [Nat.succ_mul] at this
      exact this
    have hsS : s < S := by
      rcases Nat.lt_or_ge s S with q | q
      · exact q
      · have := Nat.mul_le_mul_right (N - 2) q
        omega
    obtain ⟨k', rfl⟩ : ∃ k', k = k' + 1 := ⟨k - 1, by omega⟩
    have h5 : s * (N - 2) ≤ S * (N - 2) := Nat.mul_le_mul_right _ (by omega)
    have el := rLst_small (s := s) hN4 hN (by omega) (by omega) (show s * (N - 2) ≤ b + n by omega)
    show QJ _ _ (if (cWC N S s (max b (s * (N - 2)) - s * (N - 2)) (min (b + n) (s * (N - 2) + (N - 2)) - max b (s * (N - 2))) (v + nI (max b (s * (N - 2)) - b)) c).1 = false then _ else _) (if nI (b - s * (N - 2)) < rLst N b n s then _ else _)
    have hlt : nI (b - s * (N - 2)) < rLst N b n s := by
      rw [el, nI_ltI (by omega) (by omega)]
      omega
    rw [if_pos hlt, el, tn_nI (by omega)]
    have e1 : max b (s * (N - 2)) - s * (N - 2) = b - s * (N - 2) := by omega
    have e2 : min (b + n) (s * (N - 2) + (N - 2)) - max b (s * (N - 2)) = (min (b + n) (s * (N - 2) + (N - 2)) - s * (N - 2)) - (b - s * (N - 2)) := by omega
    have e3 : max b (s * (N - 2)) - b = s * (N - 2) + (b - s * (N - 2)) - b := by omega
    rw [e1, e2, e3]
    exact QJ_bind (F := fun c => cRunL N S b n v j (s + 1) c) (G := fun r => rRunL N S b n v k' (s + 1) r) (ws_eqp hN4 hN hS hsS (by omega) (by omega) (h2 s hsS) h) (fun c r h => ih k' (s + 1) c r (by omega) (by omega) (by omega) h)
theorem run_eq (hN4 : 4 ≤ N) (hN : N ≤ 10) (hS : S ≤ 16) (hn : 1 ≤ n) (hbn : b + n ≤ S * (N - 2)) (h2 : ∀ s, s < S → two N s P0) {c : CS} {r : RS} (h : J0p N S P0 c r) : QJ (J0p N S P0) (J3p N S P0) (cRunL N S b n v ((b + n - 1) / (N - 2) + 1 - b / (N - 2)) (b / (N - 2)) c) (rRunL N S b n v S 0 r) := by
  have hSN : S * (N - 2) ≤ 16 * 8 := Nat.mul_le_mul hS (by omega)
  have hm : 0 < N - 2 := by omega
  have h0 : b / (N - 2) ≤ (b + n - 1) / (N - 2) := Nat.div_le_div_right (by omega)
  have h1 : (b + n - 1) / (N - 2) < S := (Nat.div_lt_iff_lt_mul hm).mpr (by omega)
  have key : ∀ (i s : Nat), s + i = b / (N - 2) → rRunL N S b n v (S - s) s r = rRunL N S b n v (S - b / (N - 2)) (b / (N - 2)) r := by
    intro i
    induction i with
    | zero => intro s hs; rw [show s = b / (N - 2) by omega]
    | succ i ih =>
      intro s hs
      have h3 : (s + 1) * (N - 2) ≤ b := (Nat.le_div_iff_mul_le hm).mp (by omega)
      rw [Nat.succ_mul] at h3
      rw [show S - s = (S - (s + 1)) + 1 by omega, rRun_skip hN4 hN (by omega) (by omega) (Or.inl h3), ih (s + 1) (by omega)]
  have e := key (b / (N - 2)) 0 (by omega)
  rw [Nat.sub_zero] at e
  rw [e]
  exact run_mid hN4 hN hS hn hbn h2 _ _ _ c r (by omega) (Nat.le_refl _) (by omega) h
end Run
