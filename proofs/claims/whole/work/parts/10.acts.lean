/-! acts, stores, the entry: the reference's side -/
def rStep (r : RS) : RS := tMd (tUn r (rUn r - 1)) (rMd (tUn r (rUn r - 1)) + 1)
def rAct (r : RS) : Bool × RS := if rAr r = 0 then (true, rStep r) else if rUn r = 0 then (false, tDn (tAr r 0) 1) else (true, rStep r)
def rPut (k : Nat) (w : Int32) (r : RS) : RS := tWc (tW r (upd (rW r) k w)) (rWc (tW r (upd (rW r) k w)) + 1)
def rSt (N a b : Nat) (w : Int32) (r : RS) : Bool × RS := if nI b < rP r (rdk N a b) then (if (rAct r).1 = false then (false, (rAct r).2) else (true, rPut (16 * rdk N a b + b) w (rAct r).2)) else (true, r)
def rApL (N b e : Nat) : Nat → RS → Bool × RS
  | 0, r => (true, r)
  | k + 1, r => if (rSt N (e - (k + 1)) b (rE r (e - (k + 1))) r).1 = false then (false, (rSt N (e - (k + 1)) b (rE r (e - (k + 1))) r).2) else rApL N b e k (rSt N (e - (k + 1)) b (rE r (e - (k + 1))) r).2
def rAp2 (N b : Nat) (r : RS) : Bool × RS := if (rSt N 9 b (rE r 9) r).1 = false then (false, (rSt N 9 b (rE r 9) r).2) else if (rAct (rSt N 9 b (rE r 9) r).2).1 = false then (false, (rAct (rSt N 9 b (rE r 9) r).2).2) else (true, tLs (rAct (rSt N 9 b (rE r 9) r).2).2 (-1))
def rAp1 (N b : Nat) (r : RS) : Bool × RS := if (rSt N 8 b (rE r 8) r).1 = false then (false, (rSt N 8 b (rE r 8) r).2) else rAp2 N b (rSt N 8 b (rE r 8) r).2
def rAp (N b f e : Nat) (r : RS) : Bool × RS := if (rApL N b e (e - f) r).1 = false then (false, (rApL N b e (e - f) r).2) else rAp1 N b (rApL N b e (e - f) r).2
def rActs : Nat → RS → Bool × RS
  | 0, r => (true, r)
  | k + 1, r => if (rAct r).1 = false then (false, (rAct r).2) else rActs k (rAct r).2
/-- class and reference hold the same, but for the log -/
def RA (N S : Nat) (c : CS) (r : RS) : Prop :=
  cLe c = rLe r ∧ cDn c = rDn r ∧ cMd c = rMd r ∧ cRc c = rRc r ∧ cWc c = rWc r ∧ ((cUn c = -1 ∧ rAr r = 0) ∨ (rAr r = 1 ∧ cUn c = rUn r ∧ ∃ k : Nat, k ≤ 1000 ∧ cUn c = nI k)) ∧
  (∀ d b, d < N → b < S → cW c (d * S + b) = rW r (16 * d + b)) ∧ cP c = rP r ∧ (cDn c = 0 ∨ cDn c = 1)
theorem ix_inj {S a b a' b' : Nat} (hb : b < S) (hb' : b' < S) (h : a * S + b = a' * S + b') : a = a' ∧ b = b' := by
  have h1 : (a * S + b) / S = a := by rw [Nat.add_comm, Nat.add_mul_div_right _ _ (by omega), Nat.div_eq_of_lt hb, Nat.zero_add]
  have h2 : (a' * S + b') / S = a' := by rw [Nat.add_comm, Nat.add_mul_div_right _ _ (by omega), Nat.div_eq_of_lt hb', Nat.zero_add]
  have h3 : a = a' := by rw [← h1, ← h2, h]
  subst h3
  exact ⟨rfl, by omega⟩
/-- an act: both begin it, or both stop -/
theorem RA_act {N S : Nat} {c : CS} {r : RS} (h : RA N S c r) : (cBeg c).1 = (rAct r).1 ∧ RA N S (cBeg c).2 (rAct r).2 := by
  obtain ⟨h1, h2, h3, h4, h5, h6, h7, h8, h9⟩ := h
  unfold cBeg rAct
  rcases h6 with ⟨q1, q2⟩ | ⟨q1, q2, k, hk, q3⟩
  · rw [if_neg (by rw [q1]; decide), if_pos q1, if_pos q2]
    exact ⟨rfl, h1, h2, by show cMd c + 1 = rMd r + 1; rw [h3], h4, h5, Or.inl ⟨q1, q2⟩, h7, h8, h9⟩
  · rw [if_neg (show ¬ rAr r = 0 by rw [q1]; decide)]
    by_cases hz : cUn c = 0
    · rw [if_pos hz, if_pos (q2 ▸ hz)]
      exact ⟨rfl, h1, rfl, h3, h4, h5, Or.inl ⟨rfl, rfl⟩, h7, h8, Or.inr rfl⟩
    · have hz' : ¬ rUn r = 0 := fun q => hz (q2.trans q)
      have hk0 : k ≠ 0 := fun q => hz (by rw [q3, q]; rfl)
      have hm : ¬ cUn c = -1 := by rw [q3]; exact nI_m1 (by omega)
      rw [if_neg hz, if_neg hm, if_neg hz']
      refine ⟨rfl, h1, h2, by show cMd c + 1 = rMd r + 1; rw [h3], h4, h5, Or.inr ⟨q1, by show cUn c - 1 = rUn r - 1; rw [q2], k - 1, by omega, ?_⟩, h7, h8, h9⟩
      show cUn c - 1 = nI (k - 1)
      rw [q3]
      exact pk_sub (a := k) (b := 1) (by omega)
theorem RA_put {N S a b : Nat} {w : Int32} {c : CS} {r : RS} (ha : a < N) (hb : b < S) (hS : S ≤ 16) (h : RA N S c r) : RA N S (cPut S a b w c) (rPut (16 * a + b) w r) := by
  obtain ⟨h1, h2, h3, h4, h5, h6, h7, h8, h9⟩ := h
  refine ⟨h1, h2, h3, h4, by show cWc c + 1 = rWc r + 1; rw [h5], h6, fun d x hd hx => ?_, h8, h9⟩
  show upd (cW c) (a * S + b) w (d * S + x) = upd (rW r) (16 * a + b) w (16 * d + x)
  unfold upd
  by_cases e : d = a ∧ x = b
  · obtain ⟨rfl, rfl⟩ := e
    rw [if_pos rfl, if_pos rfl]
  · rw [if_neg (fun q => e (ix_inj hx hb q)), if_neg (fun q => e ⟨by omega, by omega⟩)]
    exact h7 d x hd hx
/-- what no act changes: the log's fields and words, the positions, the values -/
def lgc (c : CS) : Int32 × Int32 × Int32 × Fn × Fn × Fn := (cLs c, cLf c, cLc c, cX c, cP c, cV c)
def lgr (r : RS) : Int32 × Int32 × Int32 × Fn × Fn × Fn := (rLs r, rLf r, rLt r, rE r, rP r, rV r)
theorem lgc_beg (c : CS) : lgc (cBeg c).2 = lgc c := by
  unfold cBeg
  split
  · rfl
  · split <;> rfl
theorem lgr_act (r : RS) : lgr (rAct r).2 = lgr r := by
  unfold rAct
  split
  · rfl
  · split <;> rfl
theorem lgc_put (S a b : Nat) (w : Int32) (c : CS) : lgc (cPut S a b w c) = lgc c := rfl
theorem lgr_put (k : Nat) (w : Int32) (r : RS) : lgr (rPut k w r) = lgr r := rfl
theorem beg_dn {c : CS} (h : (cBeg c).1 = false) : cDn (cBeg c).2 = 1 := by
  unfold cBeg at h ⊢
  split at h
  · rename_i q; rw [if_pos q]; rfl
  · split at h <;> cases h
def QJ (J Jf : CS → RS → Prop) (x : Bool × CS) (y : Bool × RS) : Prop := x.1 = y.1 ∧ (x.1 = true → J x.2 y.2) ∧ (x.1 = false → Jf x.2 y.2)
theorem QJ_bind {J Jf J2 : CS → RS → Prop} {x : Bool × CS} {y : Bool × RS} {F : CS → Bool × CS} {G : RS → Bool × RS} (h : QJ J Jf x y) (hg : ∀ c r, J c r → QJ J2 Jf (F c) (G r)) : QJ J2 Jf (if x.1 = false then (false, x.2) else F x.2) (if y.1 = false then (false, y.2) else G y.2) := by
  obtain ⟨h1, h2, h3⟩ := h
  by_cases q : x.1 = false
  · rw [if_pos q, if_pos (h1 ▸ q)]
    exact ⟨rfl, (fun z => by cases z), fun _ => h3 q⟩
  · have q2 : ¬ y.1 = false := fun z => q (h1.trans z)
    rw [if_neg q, if_neg q2]
    exact hg _ _ (h2 (by revert q; cases x.1 <;> simp))
theorem QJ_true {J Jf : CS → RS → Prop} {c : CS} {r : RS} (h : J c r) : QJ J Jf (true, c) (true, r) := ⟨rfl, fun _ => h, fun z => by cases z⟩
/-- both log the same entry: stripe b, columns f .. e - 1 -/
def RLg (N b f e : Nat) (c : CS) (r : RS) : Prop := cLs c = nI b ∧ rLs r = nI b ∧ cLf c = nI f ∧ cLc c = nI (e - f) ∧ rLf r = nI f ∧ rLt r = nI e ∧ (∀ i, f ≤ i → i < e → cX c i = rE r i) ∧ cX c (N - 2) = rE r 8 ∧ cX c (N - 1) = rE r 9
theorem RLg_same {N b f e : Nat} {c c' : CS} {r r' : RS} (hc : lgc c' = lgc c) (hr : lgr r' = lgr r) (h : RLg N b f e c r) : RLg N b f e c' r' := by
  simp only [lgc, lgr, Prod.mk.injEq] at hc hr
  obtain ⟨a1, a2, a3, a4, a5, a6⟩ := hc
  obtain ⟨b1, b2, b3, b4, b5, b6⟩ := hr
  unfold RLg
  rw [a1, a2, a3, a4, b1, b2, b3, b4]
  exact h
def J1 (N S b f e : Nat) (c : CS) (r : RS) : Prop := RA N S c r ∧ RLg N b f e c r
def J1f (N S b f e : Nat) (c : CS) (r : RS) : Prop := RA N S c r ∧ RLg N b f e c r ∧ cDn c = 1
theorem J1_act {N S b f e : Nat} {c : CS} {r : RS} (h : J1 N S b f e c r) : QJ (J1 N S b f e) (J1f N S b f e) (cBeg c) (rAct r) := by
  obtain ⟨h1, h2⟩ := h
  obtain ⟨a1, a2⟩ := RA_act h1
  have hl := RLg_same (lgc_beg c) (lgr_act r) h2
  exact ⟨a1, fun _ => ⟨a2, hl⟩, fun q => ⟨a2, hl, beg_dn q⟩⟩
def cSt (N S a b : Nat) (w : Int32) (c : CS) : Bool × CS := if nI b < cP c (dk N a b) then cWr S (dk N a b) b w c else (true, c)
theorem J1_st {N S a a' b f e : Nat} {w : Int32} {c : CS} {r : RS} (hN : 0 < N) (hS : S ≤ 16) (hb : b < S) (ha : dk N a b = rdk N a' b) (h : J1 N S b f e c r) : QJ (J1 N S b f e) (J1f N S b f e) (cSt N S a b w c) (rSt N a' b w r) := by
  have hP : cP c (dk N a b) = rP r (rdk N a' b) := by rw [ha]; exact congrFun h.1.2.2.2.2.2.2.2.1 _
  unfold cSt rSt
  rw [hP]
  by_cases q : nI b < rP r (rdk N a' b)
  · rw [if_pos q, if_pos q]
    unfold cWr
    refine QJ_bind (F := fun c => (true, cPut S (dk N a b) b w c)) (G := fun r => (true, rPut (16 * rdk N a' b + b) w r)) (J1_act h) (fun c r h => QJ_true ?_)
    rw [← ha]
    exact ⟨RA_put (dk_lt hN) hb hS h.1, RLg_same (lgc_put ..) (lgr_put ..) h.2⟩
  · rw [if_neg q, if_neg q]
    exact QJ_true h
theorem cCarL_s (N S b k : Nat) (c : CS) : cCarL N S b (k + 1) c = if N - 2 ≤ N - (k + 1) ∨ (cLf c ≤ nI (N - (k + 1)) ∧ nI (N - (k + 1)) < cLf c + cLc c) then (if (cSt N S (N - (k + 1)) b (cX c (N - (k + 1))) c).1 = false then (false, (cSt N S (N - (k + 1)) b (cX c (N - (k + 1))) c).2) else cCarL N S b k (cSt N S (N - (k + 1)) b (cX c (N - (k + 1))) c).2) else cCarL N S b k c := by
  show (if N - 2 ≤ N - (k + 1) ∨ (cLf c ≤ nI (N - (k + 1)) ∧ nI (N - (k + 1)) < cLf c + cLc c) then _ else _) = _
  by_cases q : N - 2 ≤ N - (k + 1) ∨ (cLf c ≤ nI (N - (k + 1)) ∧ nI (N - (k + 1)) < cLf c + cLc c)
  · rw [if_pos q, if_pos q]
    unfold cSt
    by_cases q2 : nI b < cP c (dk N (N - (k + 1)) b)
    · rw [if_pos q2, if_pos q2]
    · rw [if_neg q2, if_neg q2, if_neg (show ¬ (true, c).1 = false from Bool.noConfusion)]
  · rw [if_neg q, if_neg q]
section CarAp
variable {N S b f e : Nat}
/-- from slot s on, s ≤ N -/
theorem car_skip (hN4 : 4 ≤ N) (hN : N ≤ 10) (he : e ≤ N - 2) (hfe : f ≤ e) {c : CS} {r : RS} (h : J1 N S b f e c r) : ∀ j s t : Nat, s + j = t → t ≤ N - 2 → (t ≤ f ∨ e ≤ s) → cCarL N S b (N - s) c = cCarL N S b (N - t) c := by
  intro j
  induction j with
  | zero => intro s t hs _ _; rw [show s = t by omega]
  | succ j ih =>
    intro s t hs ht hor
    obtain ⟨-, -, -, l3, l4, -⟩ := h
    have e1 : N - s = (N - (s + 1)) + 1 := by omega
    rw [e1, cCarL_s, if_neg, ih (s + 1) t (by omega) ht (by omega)]
    rw [l3, l4, nI_add, show N - (N - (s + 1) + 1) = s by omega, nI_leI (by omega) (by omega), nI_ltI (by omega) (by omega)]
    omega
theorem car_end (hN4 : 4 ≤ N) (hN : N ≤ 10) (hS : S ≤ 16) (hb : b < S) {c : CS} {r : RS} (h : J1 N S b f e c r) : QJ (J1 N S b f e) (J1f N S b f e) (cCarL N S b 2 c)
    (if (rSt N 8 b (rE r 8) r).1 = false then (false, (rSt N 8 b (rE r 8) r).2) else rSt N 9 b (rE (rSt N 8 b (rE r 8) r).2 9) (rSt N 8 b (rE r 8) r).2) := by
  rw [cCarL_s, if_pos (Or.inl (by omega)), show N - (1 + 1) = N - 2 by omega]
  have hx : cX c (N - 2) = rE r 8 := h.2.2.2.2.2.2.2.2.1
  rw [hx]
  refine QJ_bind (F := fun c => cCarL N S b 1 c) (G := fun r => rSt N 9 b (rE r 9) r) (J1_st (by omega) hS hb (rdk_P hN4).symm h) (fun c r h => ?_)
  have hx : cX c (N - 1) = rE r 9 := h.2.2.2.2.2.2.2.2.2
  rw [cCarL_s, if_pos (Or.inl (by omega)), show N - (0 + 1) = N - 1 by omega, hx]
  have h2 := QJ_bind (F := fun c => cCarL N S b 0 c) (G := fun r => (true, r)) (J1_st (w := rE r 9) (by omega) hS hb (rdk_Q hN4).symm h) (fun c r h => QJ_true (J := J1 N S b f e) (Jf := J1f N S b f e) h)
  have e2 : (if (rSt N 9 b (rE r 9) r).1 = false then (false, (rSt N 9 b (rE r 9) r).2) else (true, (rSt N 9 b (rE r 9) r).2)) = rSt N 9 b (rE r 9) r := by
    generalize rSt N 9 b (rE r 9) r = y
    obtain ⟨y1, y2⟩ := y
    cases y1 <;> rfl
  rw [e2] at h2
  exact h2
theorem car_cols (hN4 : 4 ≤ N) (hN : N ≤ 10) (hS : S ≤ 16) (hb : b < S) (he : e ≤ N - 2) (hfe : f ≤ e) : ∀ (k : Nat) (c : CS) (r : RS), f + k ≤ e → J1 N S b f e c r → QJ (J1 N S b f e) (J1f N S b f e) (cCarL N S b (N - (e - k)) c)
    (if (rApL N b e k r).1 = false then (false, (rApL N b e k r).2) else (if (rSt N 8 b (rE (rApL N b e k r).2 8) (rApL N b e k r).2).1 = false then (false, (rSt N 8 b (rE (rApL N b e k r).2 8) (rApL N b e k r).2).2) else rSt N 9 b (rE (rSt N 8 b (rE (rApL N b e k r).2 8) (rApL N b e k r).2).2 9) (rSt N 8 b (rE (rApL N b e k r).2 8) (rApL N b e k r).2).2)) := by
  intro k
  induction k with
  | zero =>
    intro c r hk h
    show QJ _ _ _ (if true = false then _ else _)
    rw [if_neg (by decide), Nat.sub_zero, car_skip hN4 hN he hfe h (N - 2 - e) e (N - 2) (by omega) (by omega) (Or.inr (by omega)), show N - (N - 2) = 2 by omega]
    exact car_end hN4 hN hS hb h
  | succ k ih =>
    intro c r hk h
    obtain ⟨-, -, -, l3, l4, -, -, lx, -⟩ := id h
    have e1 : N - (e - (k + 1)) = (N - (e - k)) + 1 := by omega
    have e3 : N - ((N - (e - k)) + 1) = e - (k + 1) := by omega
    rw [e1, cCarL_s, if_pos, e3, lx _ (by omega) (by omega)]
    · have hst := J1_st (a := e - (k + 1)) (a' := e - (k + 1)) (w := rE r (e - (k + 1))) (by omega) hS hb (rdk_c (by omega)).symm h
      have hbd := QJ_bind (F := fun c => cCarL N S b (N - (e - k)) c) (G := fun r => (if (rApL N b e k r).1 = false then (false, (rApL N b e k r).2) else (if (rSt N 8 b (rE (rApL N b e k r).2 8) (rApL N b e k r).2).1 = false then (false, (rSt N 8 b (rE (rApL N b e k r).2 8) (rApL N b e k r).2).2) else rSt N 9 b (rE (rSt N 8 b (rE (rApL N b e k r).2 8) (rApL N b e k r).2).2 9) (rSt N 8 b (rE (rApL N b e k r).2 8) (rApL N b e k r).2).2))) hst (fun c r h => ih c r (by omega) h)
      have e4 : rApL N b e (k + 1) r = if (rSt N (e - (k + 1)) b (rE r (e - (k + 1))) r).1 = false then (false, (rSt N (e - (k + 1)) b (rE r (e - (k + 1))) r).2) else rApL N b e k (rSt N (e - (k + 1)) b (rE r (e - (k + 1))) r).2 := rfl
      rw [e4]
      by_cases q : (rSt N (e - (k + 1)) b (rE r (e - (k + 1))) r).1 = false
      · rw [if_pos q] at hbd ⊢
        rw [if_pos (show (false, (rSt N (e - (k + 1)) b (rE r (e - (k + 1))) r).2).1 = false from rfl)]
        exact hbd
      · rw [if_neg q] at hbd ⊢
        exact hbd
    · rw [e3, l3, l4, nI_add, nI_leI (by omega) (by omega), nI_ltI (by omega) (by omega)]
      exact Or.inr ⟨by omega, by omega⟩
def J0 (N S : Nat) (c : CS) (r : RS) : Prop := RA N S c r ∧ cLs c = -1 ∧ rLs r = -1
/-- the entry is carried out by both alike -/
theorem car_ap (hN4 : 4 ≤ N) (hN : N ≤ 10) (hS : S ≤ 16) (hb : b < S) (he : e ≤ N - 2) (hfe : f ≤ e) {c : CS} {r : RS} (h : J1 N S b f e c r) : QJ (J0 N S) (J1f N S b f e) (cCar N S b c) (rAp N b f e r) := by
  have h1 := car_cols hN4 hN hS hb he hfe (e - f) c r (by omega) h
  rw [show e - (e - f) = f by omega, ← car_skip hN4 hN he hfe h f 0 f (by omega) (by omega) (Or.inl (Nat.le_refl _)), Nat.sub_zero] at h1
  have h2 := QJ_bind (F := fun c => if (cBeg c).1 = false then (false, (cBeg c).2) else (true, sLs (cBeg c).2 (-1))) (G := fun r => if (rAct r).1 = false then (false, (rAct r).2) else (true, tLs (rAct r).2 (-1))) (J2 := J0 N S) h1 (fun c r h => QJ_bind (F := fun c => (true, sLs c (-1))) (G := fun r => (true, tLs r (-1))) (J1_act h) (fun c r h => QJ_true ⟨h.1, rfl, rfl⟩))
  have e1 : rAp N b f e r = (if (rApL N b e (e - f) r).1 = false then (false, (rApL N b e (e - f) r).2) else rAp1 N b (rApL N b e (e - f) r).2) := rfl
  rw [e1]
  unfold cCar
  generalize cCarL N S b N c = X at h2 ⊢
  generalize rApL N b e (e - f) r = y1 at h2 ⊢
  by_cases q : y1.1 = false
  · rw [if_pos q] at h2 ⊢
    rw [if_pos (show (false, y1.2).1 = false from rfl)] at h2
    exact h2
  · rw [if_neg q] at h2 ⊢
    unfold rAp1
    generalize rSt N 8 b (rE y1.2 8) y1.2 = y2 at h2 ⊢
    by_cases q2 : y2.1 = false
    · rw [if_pos q2] at h2 ⊢
      rw [if_pos (show (false, y2.2).1 = false from rfl)] at h2
      exact h2
    · rw [if_neg q2] at h2 ⊢
      exact h2
end CarAp
