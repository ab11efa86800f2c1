/-! the field's arithmetic on words: additive functions, doubling, halving, dividing by 1 + 2^k -/
theorem nx_or (a b : Nat) : nI a ||| nI b = nI (a ||| b) := by
  apply Int32.toBitVec_inj.1
  show BitVec.ofNat 32 a ||| BitVec.ofNat 32 b = BitVec.ofNat 32 (a ||| b)
  apply BitVec.eq_of_getLsbD_eq
  intro i hi
  simp [hi]
theorem xr_u (x y : Int32) : x ^^^ (x ^^^ y) = y := by rw [← Int32.xor_assoc, Int32.xor_self, Int32.zero_xor]
theorem xr_v (x y : Int32) : x ^^^ y ^^^ y = x := by rw [Int32.xor_assoc, Int32.xor_self, Int32.xor_zero]
theorem nt_xor {a n : Nat} (b : Nat) (h : a < 2 ^ n) : a ^^^ (2 ^ n * b) = 2 ^ n * b + a := by
  apply Nat.eq_of_testBit_eq
  intro i
  rw [Nat.testBit_xor, Nat.testBit_two_pow_mul_add b h, Nat.testBit_two_pow_mul]
  by_cases hi : i < n
  · simp [hi, Nat.not_le.mpr hi]
  · have h2 : a < 2 ^ i := Nat.lt_of_lt_of_le h (Nat.pow_le_pow_right (by decide) (by omega))
    rw [Nat.testBit_lt_two_pow h2]
    simp [hi, Nat.le_of_not_lt hi]
theorem nt_or {a n : Nat} (b : Nat) (h : a < 2 ^ n) : a ||| (2 ^ n * b) = 2 ^ n * b + a := by
  rw [Nat.two_pow_add_eq_or_of_lt h, Nat.or_comm]
abbrev k_add (F : Int32 → Int32) : Prop := ∀ x y, F (x ^^^ y) = F x ^^^ F y
theorem k_add0 {F : Int32 → Int32} (h : k_add F) : F 0 = 0 := by
  have e := h 0 0
  rw [Int32.xor_zero] at e
  exact e.trans Int32.xor_self
theorem k_ext {F G : Int32 → Int32} (hF : k_add F) (hG : k_add G) (h : ∀ k, k < 32 → F (nI (2 ^ k)) = G (nI (2 ^ k))) (x : Int32) : F x = G x := by
  have key : ∀ m, m ≤ 32 → ∀ n, n < 2 ^ m → F (nI n) = G (nI n) := by
    intro m
    induction m with
    | zero =>
      intro _ n hn
      have h0 : n = 0 := by omega
      subst h0
      rw [nI_0, k_add0 hF, k_add0 hG]
    | succ m ih =>
      intro hm n hn
      by_cases hlt : n < 2 ^ m
      · exact ih (by omega) n hlt
      · have hr : n - 2 ^ m < 2 ^ m := by rw [Nat.pow_succ] at hn; omega
        have e : n = (n - 2 ^ m) ^^^ 2 ^ m := by
          have h1 := nt_xor 1 hr
          rw [Nat.mul_one] at h1
          rw [h1]
          omega
        rw [e, ← nx_xor, hF, hG, h m (by omega), ih (by omega) _ hr]
  obtain ⟨n, hn, rfl⟩ := wb_of32 x
  exact key 32 (Nat.le_refl _) n hn
theorem k_add_id : k_add (fun x => x) := fun _ _ => rfl
theorem k_add_comp {F G : Int32 → Int32} (hF : k_add F) (hG : k_add G) : k_add (fun x => F (G x)) := fun x y => by
  show F (G (x ^^^ y)) = F (G x) ^^^ F (G y)
  rw [hG, hF]
theorem k_add_xor {F G : Int32 → Int32} (hF : k_add F) (hG : k_add G) : k_add (fun x => F x ^^^ G x) := fun x y => by
  show F (x ^^^ y) ^^^ G (x ^^^ y) = (F x ^^^ G x) ^^^ (F y ^^^ G y)
  rw [hF, hG]
  ac_rfl
theorem k_add_and (m : Int32) : k_add (fun x => x &&& m) := fun x y => b_ext fun i _ => by
  show bt ((x ^^^ y) &&& m) i = bt ((x &&& m) ^^^ (y &&& m)) i
  rw [b_and, b_xor, b_xor, b_and, b_and]
  cases bt x i <;> cases bt y i <;> cases bt m i <;> rfl
theorem k_add_shl (n : Nat) (hn : n < 32) : k_add (fun x => x <<< (nI n &&& 31)) := fun x y => b_ext fun i hi => by
  show bt ((x ^^^ y) <<< (nI n &&& 31)) i = bt (x <<< (nI n &&& 31) ^^^ y <<< (nI n &&& 31)) i
  rw [b_xor, b_shl n hn _ hi, b_shl n hn _ hi, b_shl n hn _ hi, b_xor]
  cases decide (n ≤ i) <;> cases bt x (i - n) <;> cases bt y (i - n) <;> rfl
theorem k_add_ushr (n : Nat) (hn : n < 32) : k_add (fun x => (x.toUInt32 >>> ((nI n).toUInt32 &&& Int32.toUInt32 31)).toInt32) := fun x y => b_ext fun i _ => by
  show bt (((x ^^^ y).toUInt32 >>> ((nI n).toUInt32 &&& Int32.toUInt32 31)).toInt32) i = bt ((x.toUInt32 >>> ((nI n).toUInt32 &&& Int32.toUInt32 31)).toInt32 ^^^ (y.toUInt32 >>> ((nI n).toUInt32 &&& Int32.toUInt32 31)).toInt32) i
  rw [b_xor, b_ushr n hn, b_ushr n hn, b_ushr n hn, b_xor]
def mk4 (a b c d : Bool) : Int32 := (if a then 1 else 0) ^^^ (if b then 256 else 0) ^^^ (if c then 65536 else 0) ^^^ (if d then 16777216 else 0)
theorem mk4_bt : ∀ i, i < 32 → ∀ a b c d : Bool, bt (mk4 a b c d) i = if i = 0 then a else if i = 8 then b else if i = 16 then c else if i = 24 then d else false := by decide +kernel
theorem m4_bt : ∀ i, i < 32 → bt 16843009 i = (decide (i = 0) || decide (i = 8) || decide (i = 16) || decide (i = 24)) := by decide +kernel
theorem m4_and (x : Int32) : x &&& 16843009 = mk4 (bt x 0) (bt x 8) (bt x 16) (bt x 24) := b_ext fun i hi => by
  rw [b_and, mk4_bt i hi, m4_bt i hi]
  by_cases h0 : i = 0
  · subst h0; simp
  by_cases h8 : i = 8
  · subst h8; simp
  by_cases h16 : i = 16
  · subst h16; simp
  by_cases h24 : i = 24
  · subst h24; simp
  simp [h0, h8, h16, h24]
theorem m4_29 : ∀ a b c d a' b' c' d' : Bool, mk4 (a ^^ a') (b ^^ b') (c ^^ c') (d ^^ d') * 29 = mk4 a b c d * 29 ^^^ mk4 a' b' c' d' * 29 := by decide +kernel
theorem m4_142 : ∀ a b c d a' b' c' d' : Bool, mk4 (a ^^ a') (b ^^ b') (c ^^ c') (d ^^ d') * 142 = mk4 a b c d * 142 ^^^ mk4 a' b' c' d' * 142 := by decide +kernel
theorem k_add_29 : k_add (fun x => (x &&& 16843009) * 29) := fun x y => by
  show ((x ^^^ y) &&& 16843009) * 29 = (x &&& 16843009) * 29 ^^^ (y &&& 16843009) * 29
  rw [m4_and, m4_and, m4_and, b_xor, b_xor, b_xor, b_xor, m4_29]
theorem k_add_142 : k_add (fun x => (x &&& 16843009) * 142) := fun x y => by
  show ((x ^^^ y) &&& 16843009) * 142 = (x &&& 16843009) * 142 ^^^ (y &&& 16843009) * 142
  rw [m4_and, m4_and, m4_and, b_xor, b_xor, b_xor, b_xor, m4_142]
theorem dbl_add : k_add dbl := k_add_xor (k_add_comp (k_add_shl 1 (by decide)) (k_add_and 2139062143)) (k_add_comp k_add_29 (k_add_ushr 7 (by decide)))
theorem hlv_add : k_add hlv := k_add_xor (k_add_comp (k_add_and 2139062143) (k_add_ushr 1 (by decide))) k_add_142
theorem dblN_add (n : Nat) : k_add (dblN n) := by
  induction n with
  | zero => exact k_add_id
  | succ n ih => exact k_add_comp (F := dbl) (G := dblN n) dbl_add ih
theorem hlvN_add (n : Nat) : k_add (hlvN n) := by
  induction n with
  | zero => exact k_add_id
  | succ n ih => exact k_add_comp (F := hlv) (G := hlvN n) hlv_add ih
theorem hlv_dbl (x : Int32) : hlv (dbl x) = x := k_ext (F := fun x => hlv (dbl x)) (G := fun x => x) (k_add_comp hlv_add dbl_add) k_add_id (by decide +kernel) x
theorem dbl_hlv (x : Int32) : dbl (hlv x) = x := k_ext (F := fun x => dbl (hlv x)) (G := fun x => x) (k_add_comp dbl_add hlv_add) k_add_id (by decide +kernel) x
theorem dblN_comm (n : Nat) (x : Int32) : dblN n (dbl x) = dbl (dblN n x) := by
  induction n with
  | zero => rfl
  | succ n ih => show dbl (dblN n (dbl x)) = dbl (dbl (dblN n x)); rw [ih]
theorem dblN_plus (a b : Nat) (x : Int32) : dblN (a + b) x = dblN a (dblN b x) := by
  induction a with
  | zero => rw [Nat.zero_add]; rfl
  | succ a ih => rw [Nat.add_right_comm]; show dbl (dblN (a + b) x) = dbl (dblN a (dblN b x)); rw [ih]
theorem hlvN_dblN (n : Nat) (x : Int32) : hlvN n (dblN n x) = x := by
  induction n generalizing x with
  | zero => rfl
  | succ n ih =>
    show hlv (hlvN n (dbl (dblN n x))) = x
    rw [← dblN_comm, ih, hlv_dbl]
theorem dblN_hlvN (n : Nat) (x : Int32) : dblN n (hlvN n x) = x := by
  induction n generalizing x with
  | zero => rfl
  | succ n ih =>
    show dbl (dblN n (hlv (hlvN n x))) = x
    rw [← dblN_comm, dbl_hlv, ih]
theorem dvR_add (f : Int32) (n : Nat) : k_add (fun w => dvR f w n) := by
  induction n with
  | zero => intro x y; exact Int32.xor_zero.symm
  | succ n ih =>
    by_cases h : ((f.toUInt32 >>> ((nI n).toUInt32 &&& Int32.toUInt32 31)).toInt32 &&& 1) = 0
    · intro x y
      show dvR f (x ^^^ y) (n + 1) = dvR f x (n + 1) ^^^ dvR f y (n + 1)
      unfold dvR
      rw [if_pos h, if_pos h, if_pos h]
      exact ih x y
    · intro x y
      show dvR f (x ^^^ y) (n + 1) = dvR f x (n + 1) ^^^ dvR f y (n + 1)
      unfold dvR
      rw [if_neg h, if_neg h, if_neg h]
      exact k_add_xor ih (dblN_add n) x y
theorem dv1_add (j : Nat) : k_add (dv1 j) := dvR_add (tabI j) 8
theorem dv1_b1 : ∀ j, j < 8 → 0 < j → ∀ k, k < 32 → dv1 j (nI (2 ^ k)) ^^^ dblN j (dv1 j (nI (2 ^ k))) = nI (2 ^ k) := by decide +kernel
theorem dv1_b2 : ∀ j, j < 8 → 0 < j → ∀ k, k < 32 → dv1 j (nI (2 ^ k) ^^^ dblN j (nI (2 ^ k))) = nI (2 ^ k) := by decide +kernel
/-- dv1 j x is the word that, times 1 + 2^j, is x -/
theorem dv1_r {j : Nat} (h : j < 8) (h0 : 0 < j) (x : Int32) : dv1 j x ^^^ dblN j (dv1 j x) = x :=
  k_ext (F := fun x => dv1 j x ^^^ dblN j (dv1 j x)) (G := fun x => x) (k_add_xor (dv1_add j) (k_add_comp (dblN_add j) (dv1_add j))) k_add_id (dv1_b1 j h h0) x
theorem dv1_l {j : Nat} (h : j < 8) (h0 : 0 < j) (x : Int32) : dv1 j (x ^^^ dblN j x) = x :=
  k_ext (F := fun x => dv1 j (x ^^^ dblN j x)) (G := fun x => x) (k_add_comp (dv1_add j) (k_add_xor k_add_id (dblN_add j))) k_add_id (dv1_b2 j h h0) x
theorem dblN_inj {n : Nat} {x y : Int32} (h : dblN n x = dblN n y) : x = y := by rw [← hlvN_dblN n x, h, hlvN_dblN]
/-- two columns: one solution at most -/
theorem two_one {i j : Nat} (hij : i < j) (hj : j - i < 8) {z : Int32} (h : dblN i z ^^^ dblN j z = 0) : z = 0 := by
  have e : j = i + (j - i) := by omega
  rw [e, dblN_plus, ← dblN_add i, ← k_add0 (dblN_add i)] at h
  have h2 := dblN_inj h
  rw [← dv1_l hj (by omega) z, h2, k_add0 (dv1_add _)]
-- Horner's sum and the weighted sum
def wsA (V : Fn) (a : Nat) : Nat → Int32
  | 0 => 0
  | k + 1 => wsA V a k ^^^ dblN k (V (a + k))
theorem wsA_head (V : Fn) (a k : Nat) : wsA V a (k + 1) = dbl (wsA V (a + 1) k) ^^^ V a := by
  induction k with
  | zero => show 0 ^^^ V (a + 0) = dbl 0 ^^^ V a; rw [k_add0 dbl_add]; rfl
  | succ k ih =>
    show wsA V a (k + 1) ^^^ dblN (k + 1) (V (a + (k + 1))) = dbl (wsA V (a + 1) k ^^^ dblN k (V (a + 1 + k))) ^^^ V a
    rw [ih, dbl_add, show a + 1 + k = a + (k + 1) by omega]
    show _ ^^^ dbl (dblN k (V (a + (k + 1)))) = _
    ac_rfl
theorem sgL_eq (V : Fn) (m : Nat) : ∀ k, k ≤ m → sgL V m k = wsA V (m - k) k := by
  intro k
  induction k with
  | zero => intro _; rfl
  | succ k ih =>
    intro hk
    show dbl (sgL V m k) ^^^ V (m - 1 - k) = _
    rw [wsA_head, ih (by omega), show m - (k + 1) + 1 = m - k by omega, show m - 1 - k = m - (k + 1) by omega]
theorem sgL_ws (V : Fn) (m : Nat) : sgL V m m = wsA V 0 m := by rw [sgL_eq V m m (Nat.le_refl _), Nat.sub_self]
-- bytes
def bt1 (y : Nat) : Nat := if y < 128 then 2 * y else (2 * y - 256) ^^^ 29
def btN : Nat → Nat → Nat
  | 0, x => x
  | n + 1, x => bt1 (btN n x)
theorem bt1_lt : ∀ y, y < 256 → bt1 y < 256 := by decide +kernel
theorem btN_lt (n : Nat) {x : Nat} (h : x < 256) : btN n x < 256 := by
  induction n with
  | zero => exact h
  | succ n ih => exact bt1_lt _ ih
def ln (k : Nat) (w : Int32) : Nat := w.toBitVec.toNat / 2 ^ (8 * k) % 256
theorem ln_lt (k : Nat) (w : Int32) : ln k w < 256 := Nat.mod_lt _ (by decide)
def cN (f : Nat → Nat) : Nat := 2 ^ 24 * f 3 + (2 ^ 16 * f 2 + (2 ^ 8 * f 1 + f 0))
theorem cN_lt {f : Nat → Nat} (h : ∀ k, f k < 256) : cN f < 2 ^ 32 := by
  have h0 := h 0
  have h1 := h 1
  have h2 := h 2
  have h3 := h 3
  unfold cN
  omega
theorem cN_ln (w : Int32) : nI (cN (fun k => ln k w)) = w := by
  obtain ⟨n, hn, rfl⟩ := wb_of32 w
  have e : cN (fun k => ln k (nI n)) = n := by
    unfold cN ln
    rw [pk_tn hn]
    simp only [Nat.reduceMul, Nat.reducePow, Nat.pow_zero, Nat.div_one]
    omega
  rw [e]
theorem ln_cN {f : Nat → Nat} (h : ∀ k, f k < 256) (k : Nat) (hk : k < 4) : ln k (nI (cN f)) = f k := by
  have h0 := h 0
  have h1 := h 1
  have h2 := h 2
  have h3 := h 3
  unfold ln
  rw [pk_tn (cN_lt h)]
  unfold cN
  rcases (show k = 0 ∨ k = 1 ∨ k = 2 ∨ k = 3 by omega) with rfl | rfl | rfl | rfl <;> simp only [Nat.reduceMul, Nat.reducePow, Nat.pow_zero, Nat.div_one] <;> omega
theorem cN_xor {f : Nat → Nat} (h : ∀ k, f k < 256) : nI (cN f) = ((nI (f 0) ^^^ nI (2 ^ 8 * f 1)) ^^^ nI (2 ^ 16 * f 2)) ^^^ nI (2 ^ 24 * f 3) := by
  have h0 := h 0
  have h1 := h 1
  have h2 := h 2
  rw [nx_xor, nx_xor, nx_xor, nt_xor (f 1) (show f 0 < 2 ^ 8 by omega), nt_xor (f 2) (show 2 ^ 8 * f 1 + f 0 < 2 ^ 16 by omega), nt_xor (f 3) (show 2 ^ 16 * f 2 + (2 ^ 8 * f 1 + f 0) < 2 ^ 24 by omega)]
  rfl
theorem dbl_l0 : ∀ x, x < 256 → dbl (nI x) = nI (bt1 x) := by decide +kernel
theorem dbl_l1 : ∀ x, x < 256 → dbl (nI (2 ^ 8 * x)) = nI (2 ^ 8 * bt1 x) := by decide +kernel
theorem dbl_l2 : ∀ x, x < 256 → dbl (nI (2 ^ 16 * x)) = nI (2 ^ 16 * bt1 x) := by decide +kernel
theorem dbl_l3 : ∀ x, x < 256 → dbl (nI (2 ^ 24 * x)) = nI (2 ^ 24 * bt1 x) := by decide +kernel
theorem dbl_cN {f : Nat → Nat} (h : ∀ k, f k < 256) : dbl (nI (cN f)) = nI (cN (fun k => bt1 (f k))) := by
  rw [cN_xor h, dbl_add, dbl_add, dbl_add, dbl_l0 _ (h 0), dbl_l1 _ (h 1), dbl_l2 _ (h 2), dbl_l3 _ (h 3), cN_xor (f := fun k => bt1 (f k)) (fun k => bt1_lt _ (h k))]
theorem dblN_cN (n : Nat) {f : Nat → Nat} (h : ∀ k, f k < 256) : dblN n (nI (cN f)) = nI (cN (fun k => btN n (f k))) := by
  induction n with
  | zero => rfl
  | succ n ih =>
    show dbl (dblN n (nI (cN f))) = _
    rw [ih, dbl_cN (f := fun k => btN n (f k)) (fun k => btN_lt n (h k))]
    rfl
theorem dblN_ln (n : Nat) (w : Int32) : dblN n w = nI (cN (fun k => btN n (ln k w))) := by
  have h := dblN_cN n (f := fun k => ln k w) (fun k => ln_lt k w)
  rw [cN_ln] at h
  exact h
theorem ln_dblN (n : Nat) (w : Int32) (k : Nat) (hk : k < 4) : ln k (dblN n w) = btN n (ln k w) := by
  rw [dblN_ln, ln_cN (f := fun k => btN n (ln k w)) (fun k => btN_lt n (ln_lt k w)) k hk]
theorem dblN_l0 (n : Nat) {x : Nat} (h : x < 256) : dblN n (nI x) = nI (btN n x) := by
  induction n with
  | zero => rfl
  | succ n ih => show dbl (dblN n (nI x)) = _; rw [ih, dbl_l0 _ (btN_lt n h)]; rfl
theorem ln_xor (x y : Int32) (k : Nat) : ln k (x ^^^ y) = ln k x ^^^ ln k y := by
  unfold ln
  rw [Int32.toBitVec_xor, BitVec.toNat_xor, Nat.xor_div_two_pow, show (256 : Nat) = 2 ^ 8 from rfl, Nat.xor_mod_two_pow]
theorem ln_ext {x y : Int32} (h : ∀ k, k < 4 → ln k x = ln k y) : x = y := by
  rw [← cN_ln x, ← cN_ln y]
  unfold cN
  dsimp only
  rw [h 0 (by decide), h 1 (by decide), h 2 (by decide), h 3 (by decide)]
