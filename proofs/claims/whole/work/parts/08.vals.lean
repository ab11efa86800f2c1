/-! the values of a stripe: the class's load and the reference's values give the same, where at most two cells are lost -/
theorem md_c {N x : Nat} (h0 : 0 < N) (h : x < 3 * N) : (x < N ∧ x % N = x) ∨ (N ≤ x ∧ x < 2 * N ∧ x % N = x - N) ∨ (2 * N ≤ x ∧ x % N = x - 2 * N) := by
  rcases Nat.lt_or_ge x N with h1 | h1
  · exact Or.inl ⟨h1, Nat.mod_eq_of_lt h1⟩
  · rw [Nat.mod_eq_sub_mod h1]
    rcases Nat.lt_or_ge x (2 * N) with h2 | h2
    · exact Or.inr (Or.inl ⟨h1, h2, Nat.mod_eq_of_lt (by omega)⟩)
    · rw [Nat.mod_eq_sub_mod (by omega)]
      exact Or.inr (Or.inr ⟨h2, by rw [Nat.mod_eq_of_lt (by omega)]; omega⟩)
theorem dk_inj {N a a' b : Nat} (hN : 4 ≤ N) (ha : a < N) (ha' : a' < N) (h : dk N a b = dk N a' b) : a = a' := by
  have hp : dP N b < N := dP_lt (by omega)
  unfold dk at h
  rcases md_c (x := dP N b + 2 + a) (show 0 < N by omega) (by omega) with h1 | h1 | h1 <;> rcases md_c (x := dP N b + 2 + a') (show 0 < N by omega) (by omega) with h2 | h2 | h2 <;> omega
theorem dk_P {N b : Nat} (hN : 4 ≤ N) : dk N (N - 2) b = dP N b := by
  have hp : dP N b < N := dP_lt (by omega)
  unfold dk
  rcases md_c (x := dP N b + 2 + (N - 2)) (show 0 < N by omega) (by omega) with h1 | h1 | h1 <;> omega
theorem dk_Q {N b : Nat} (hN : 4 ≤ N) : dk N (N - 1) b = (dP N b + 1) % N := by
  have hp : dP N b < N := dP_lt (by omega)
  unfold dk
  rcases md_c (x := dP N b + 2 + (N - 1)) (show 0 < N by omega) (by omega) with h1 | h1 | h1 <;> rcases md_c (x := dP N b + 1) (show 0 < N by omega) (by omega) with h2 | h2 | h2 <;> omega
theorem slt_dk {N d b : Nat} (hN : 4 ≤ N) (hd : d < N) : dk N (slt N d b) b = d := by
  have hp : dP N b < N := dP_lt (by omega)
  have hs : slt N d b < N := slt_lt (by omega)
  unfold dk
  unfold slt at hs ⊢
  rcases md_c (x := d + 2 * N - 2 - dP N b) (show 0 < N by omega) (by omega) with h1 | h1 | h1 <;> rcases md_c (x := dP N b + 2 + (d + 2 * N - 2 - dP N b) % N) (show 0 < N by omega) (by omega) with h2 | h2 | h2 <;> omega
theorem cntB_mono (P : Fn) (x : Int32) {m n : Nat} (h : m ≤ n) : cntB P x m ≤ cntB P x n := by
  induction n with
  | zero => have : m = 0 := by omega
            subst this; exact Nat.le_refl _
  | succ n ih =>
    rcases Nat.lt_or_ge n m with h1 | h1
    · have : m = n + 1 := by omega
      subst this; exact Nat.le_refl _
    · have := ih h1
      show _ ≤ (if P n < x then cntB P x n + 1 else cntB P x n)
      split <;> omega
theorem cntB_one (P : Fn) (x : Int32) {d n : Nat} (hd : d < n) (h : P d < x) : cntB P x d + 1 ≤ cntB P x n := by
  have h1 := cntB_mono P x (show d + 1 ≤ n from hd)
  have h2 : cntB P x (d + 1) = cntB P x d + 1 := by show (if P d < x then _ else _) = _; rw [if_pos h]
  omega
theorem cntB_3 (P : Fn) (x : Int32) {d1 d2 d3 n : Nat} (h12 : d1 < d2) (h23 : d2 < d3) (h3 : d3 < n) (p1 : P d1 < x) (p2 : P d2 < x) (p3 : P d3 < x) : 3 ≤ cntB P x n := by
  have a1 := cntB_one P x h12 p1
  have a2 := cntB_one P x h23 p2
  have a3 := cntB_one P x h3 p3
  omega
def lost (N b : Nat) (Po : Fn) (a : Nat) : Prop := ¬ nI b < Po (dk N a b)
/-- at most two slots are lost -/
def two (N b : Nat) (Po : Fn) : Prop := ∀ x y z, x < y → y < z → z < N → lost N b Po x → lost N b Po y → lost N b Po z → False
theorem two_of {N S b : Nat} {Po : Fn} (hN : 4 ≤ N) (hS : S ≤ 16) (hb : b < S) (h : ¬ 2 < cntB Po (nI S) N) : two N b Po := by
  intro x y z hxy hyz hz lx ly lz
  have low : ∀ a, lost N b Po a → Po (dk N a b) < nI S := fun a la => by
    have h1 : Po (dk N a b) ≤ nI b := Int32.not_lt.mp la
    exact Int32.lt_of_le_of_lt h1 (nI_lt hb (by omega))
  have dx : dk N x b < N := dk_lt (by omega)
  have dy : dk N y b < N := dk_lt (by omega)
  have dz : dk N z b < N := dk_lt (by omega)
  have nxy : dk N x b ≠ dk N y b := fun q => by have := dk_inj hN (by omega) (by omega) q; omega
  have nyz : dk N y b ≠ dk N z b := fun q => by have := dk_inj hN (by omega) (by omega) q; omega
  have nxz : dk N x b ≠ dk N z b := fun q => by have := dk_inj hN (by omega) (by omega) q; omega
  have px := low x lx
  have py := low y ly
  have pz := low z lz
  have key : ∀ d1 d2 d3, d1 < d2 → d2 < d3 → d3 < N → Po d1 < nI S → Po d2 < nI S → Po d3 < nI S → False := fun d1 d2 d3 h1 h2 h3 q1 q2 q3 => by
    have := cntB_3 Po (nI S) h1 h2 h3 q1 q2 q3
    omega
  rcases Nat.lt_or_gt_of_ne nxy with a | a <;> rcases Nat.lt_or_gt_of_ne nyz with b' | b' <;> rcases Nat.lt_or_gt_of_ne nxz with c' | c'
  · exact key _ _ _ a b' dz px py pz
  · omega
  · exact key _ _ _ c' b' dy px pz py
  · exact key _ _ _ c' a dy pz px py
  · exact key _ _ _ a c' dz py px pz
  · exact key _ _ _ b' c' dx py pz px
  · omega
  · exact key _ _ _ b' a dx pz py px
def LPp (L : Nat → Prop) (n : Nat) (fl sl : Int32) : Prop :=
  ((∀ a, a < n → ¬ L a) ∧ fl = -1 ∧ sl = -1) ∨ (∃ x, x < n ∧ L x ∧ (∀ a, a < n → L a → a = x) ∧ fl = nI x ∧ sl = -1) ∨
  (∃ x y, x < y ∧ y < n ∧ L x ∧ L y ∧ (∀ a, a < n → L a → a = x ∨ a = y) ∧ fl = nI x ∧ sl = nI y)
theorem LP_no {L : Nat → Prop} {n : Nat} {fl sl : Int32} (h : LPp L n fl sl) (hn : ¬ L n) : LPp L (n + 1) fl sl := by
  have up : ∀ a, a < n + 1 → L a → a < n := fun a ha la => by
    rcases Nat.lt_or_ge a n with h1 | h1
    · exact h1
    · have : a = n := by omega
      subst this; exact absurd la hn
  rcases h with ⟨h1, h2, h3⟩ | ⟨x, h1, h2, h3, h4, h5⟩ | ⟨x, y, h1, h2, h3, h4, h5, h6, h7⟩
  · exact Or.inl ⟨fun a ha la => h1 a (up a ha la) la, h2, h3⟩
  · exact Or.inr (Or.inl ⟨x, by omega, h2, fun a ha la => h3 a (up a ha la) la, h4, h5⟩)
  · exact Or.inr (Or.inr ⟨x, y, h1, by omega, h3, h4, fun a ha la => h5 a (up a ha la) la, h6, h7⟩)
theorem LP_first {L : Nat → Prop} {n : Nat} {fl sl : Int32} (hb : n < 2 ^ 31) (h : LPp L n fl sl) (hn : L n) (hf : fl = -1) : LPp L (n + 1) (nI n) sl := by
  rcases h with ⟨h1, h2, h3⟩ | ⟨x, h1, h2, h3, h4, h5⟩ | ⟨x, y, h1, h2, h3, h4, h5, h6, h7⟩
  · refine Or.inr (Or.inl ⟨n, by omega, hn, fun a ha la => ?_, rfl, h3⟩)
    rcases Nat.lt_or_ge a n with q | q
    · exact absurd la (h1 a q)
    · omega
  · exact absurd (h4.symm.trans hf) (nI_m1 (by omega))
  · exact absurd (h6.symm.trans hf) (nI_m1 (by omega))
theorem LP_second {L : Nat → Prop} {n : Nat} {fl sl : Int32} (h : LPp L n fl sl) (hn : L n) (hf : ¬ fl = -1) (h3 : ∀ x y, x < y → y < n → L x → L y → False) : LPp L (n + 1) fl (nI n) := by
  rcases h with ⟨h1, h2, h3⟩ | ⟨x, h1, h2, h3, h4, h5⟩ | ⟨x, y, h1, h2, h4, h5, h6, h7, h8⟩
  · exact absurd h2 hf
  · refine Or.inr (Or.inr ⟨x, n, h1, by omega, h2, hn, fun a ha la => ?_, h4, rfl⟩)
    rcases Nat.lt_or_ge a n with q | q
    · exact Or.inl (h3 a q la)
    · exact Or.inr (by omega)
  · exact (h3 x y h1 h2 h4 h5).elim
theorem LP_neg {L : Nat → Prop} {n : Nat} {fl sl : Int32} (hb : n < 2 ^ 31) (h : LPp L n fl sl) : fl < 0 ↔ fl = -1 := by
  rcases h with ⟨h1, h2, h3⟩ | ⟨x, h1, h2, h3, h4, h5⟩ | ⟨x, y, h1, h2, h4, h5, h6, h7, h8⟩
  · subst h2; decide
  · subst h4; exact ⟨fun q => absurd q (nI_pos (by omega)), fun q => absurd q (nI_m1 (by omega))⟩
  · subst h7; exact ⟨fun q => absurd q (nI_pos (by omega)), fun q => absurd q (nI_m1 (by omega))⟩
noncomputable def base (N S b : Nat) (W Po : Fn) (a : Nat) : Int32 := if nI b < Po (dk N a b) then W (dk N a b * S + b) else 0
theorem ldL_spec {N S b : Nat} {W Po V : Fn} (hN : N ≤ 10) (h2 : two N b Po) : ∀ n, n ≤ N → (∀ a, a < n → (ldL N S b W Po V n).1 a = base N S b W Po a) ∧ LPp (lost N b Po) n (ldL N S b W Po V n).2.1 (ldL N S b W Po V n).2.2 := by
  intro n
  induction n with
  | zero => intro _; exact ⟨fun a h => absurd h (by omega), Or.inl ⟨fun a h => absurd h (by omega), rfl, rfl⟩⟩
  | succ n ih =>
    intro hn
    obtain ⟨i1, i2⟩ := ih (by omega)
    have step : ∀ (w : Int32), w = base N S b W Po n → ∀ a, a < n + 1 → upd (ldL N S b W Po V n).1 n w a = base N S b W Po a := by
      intro w hw a ha
      rcases Nat.lt_or_ge a n with q | q
      · rw [pk_un (by omega)]; exact i1 a q
      · have : a = n := by omega
        subst this; rw [pk_us]; exact hw
    by_cases hav : nI b < Po (dk N n b)
    · have e : ldL N S b W Po V (n + 1) = (upd (ldL N S b W Po V n).1 n (W (dk N n b * S + b)), (ldL N S b W Po V n).2.1, (ldL N S b W Po V n).2.2) := by
        show (if nI b < Po (dk N n b) then _ else _) = _
        rw [if_pos hav]
      rw [e]
      exact ⟨step _ (by unfold base; rw [if_pos hav]), LP_no i2 (fun q => q hav)⟩
    · by_cases hf : (ldL N S b W Po V n).2.1 = -1
      · have e : ldL N S b W Po V (n + 1) = (upd (ldL N S b W Po V n).1 n 0, nI n, (ldL N S b W Po V n).2.2) := by
          show (if nI b < Po (dk N n b) then _ else _) = _
          rw [if_neg hav, if_pos hf]
        rw [e]
        exact ⟨step _ (by unfold base; rw [if_neg hav]), LP_first (by omega) i2 hav hf⟩
      · have e : ldL N S b W Po V (n + 1) = (upd (ldL N S b W Po V n).1 n 0, (ldL N S b W Po V n).2.1, nI n) := by
          show (if nI b < Po (dk N n b) then _ else _) = _
          rw [if_neg hav, if_neg hf]
        rw [e]
        exact ⟨step _ (by unfold base; rw [if_neg hav]), LP_second i2 hav hf (fun x y hx hy lx ly => h2 x y n hx hy (by omega) lx ly hav)⟩
theorem rdk_c {N a b : Nat} (h : a < 8) : rdk N a b = dk N a b := by
  unfold rdk dk
  rw [if_neg (by omega), if_neg (by omega)]
theorem rdk_P {N b : Nat} (hN : 4 ≤ N) : rdk N 8 b = dk N (N - 2) b := by rw [dk_P hN]; unfold rdk; rw [if_pos rfl]
theorem rdk_Q {N b : Nat} (hN : 4 ≤ N) : rdk N 9 b = dk N (N - 1) b := by rw [dk_Q hN]; unfold rdk; rw [if_neg (by decide), if_pos rfl]
theorem rvL_spec {N S b : Nat} {W W6 Po V : Fn} (hN4 : 4 ≤ N) (hN : N ≤ 10) (hW : ∀ d, d < N → W (d * S + b) = W6 (16 * d + b)) (h2 : two N b Po) : ∀ n, n ≤ N - 2 → (∀ a, a < n → (rvL N b W6 Po V n).1 a = base N S b W Po a) ∧ LPp (lost N b Po) n (rvL N b W6 Po V n).2.1 (rvL N b W6 Po V n).2.2 := by
  intro n
  induction n with
  | zero => intro _; exact ⟨fun a h => absurd h (by omega), Or.inl ⟨fun a h => absurd h (by omega), rfl, rfl⟩⟩
  | succ n ih =>
    intro hn
    obtain ⟨i1, i2⟩ := ih (by omega)
    have er : rdk N n b = dk N n b := rdk_c (by omega)
    have step : ∀ (w : Int32), w = base N S b W Po n → ∀ a, a < n + 1 → upd (rvL N b W6 Po V n).1 n w a = base N S b W Po a := by
      intro w hw a ha
      rcases Nat.lt_or_ge a n with q | q
      · rw [pk_un (by omega)]; exact i1 a q
      · have : a = n := by omega
        subst this; rw [pk_us]; exact hw
    have ln' := LP_neg (by omega) i2
    by_cases hav : nI b < Po (rdk N n b)
    · have e : rvL N b W6 Po V (n + 1) = (upd (rvL N b W6 Po V n).1 n (W6 (16 * rdk N n b + b)), (rvL N b W6 Po V n).2.1, (rvL N b W6 Po V n).2.2) := by
        show (if nI b < Po (rdk N n b) then _ else _) = _
        rw [if_pos hav]
      rw [e]
      rw [er] at hav ⊢
      exact ⟨step _ (by unfold base; rw [if_pos hav, hW _ (dk_lt (by omega))]), LP_no i2 (fun q => q hav)⟩
    · by_cases hf : (rvL N b W6 Po V n).2.1 < 0
      · have e : rvL N b W6 Po V (n + 1) = (upd (rvL N b W6 Po V n).1 n 0, nI n, (rvL N b W6 Po V n).2.2) := by
          show (if nI b < Po (rdk N n b) then _ else _) = _
          rw [if_neg hav, if_pos hf]
        rw [e]
        rw [er] at hav
        exact ⟨step _ (by unfold base; rw [if_neg hav]), LP_first (by omega) i2 hav (ln'.mp hf)⟩
      · have e : rvL N b W6 Po V (n + 1) = (upd (rvL N b W6 Po V n).1 n 0, (rvL N b W6 Po V n).2.1, nI n) := by
          show (if nI b < Po (rdk N n b) then _ else _) = _
          rw [if_neg hav, if_neg hf]
        rw [e]
        rw [er] at hav
        exact ⟨step _ (by unfold base; rw [if_neg hav]), LP_second i2 hav (fun q => hf (ln'.mpr q)) (fun x y hx hy lx ly => h2 x y n hx hy (by omega) lx ly hav)⟩
-- sums over values that agree
theorem fgL_p (V : Fn) (p : Int32) (n : Nat) : fgL V p n = p ^^^ fgL V 0 n := by
  induction n with
  | zero => exact Int32.xor_zero.symm
  | succ n ih => show fgL V p n ^^^ V n = p ^^^ (fgL V 0 n ^^^ V n); rw [ih, Int32.xor_assoc]
theorem fgL_c {V V' : Fn} (p : Int32) {n : Nat} (h : ∀ a, a < n → V a = V' a) : fgL V p n = fgL V' p n := by
  induction n with
  | zero => rfl
  | succ n ih => show fgL V p n ^^^ V n = fgL V' p n ^^^ V' n; rw [ih (fun a ha => h a (by omega)), h n (by omega)]
theorem wsA_c {V V' : Fn} {n : Nat} (h : ∀ a, a < n → V a = V' a) : wsA V 0 n = wsA V' 0 n := by
  induction n with
  | zero => rfl
  | succ n ih => show wsA V 0 n ^^^ dblN n (V (0 + n)) = wsA V' 0 n ^^^ dblN n (V' (0 + n)); rw [ih (fun a ha => h a (by omega)), Nat.zero_add, h n (by omega)]
theorem fg_eq {N : Nat} (V : Fn) : fg N V = V (N - 2) ^^^ fgL V 0 (N - 2) := fgL_p _ _ _
theorem sg_eq {N : Nat} (V : Fn) : sg N V = V (N - 1) ^^^ wsA V 0 (N - 2) := by unfold sg; rw [sgL_ws]
