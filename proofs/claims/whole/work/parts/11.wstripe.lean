/-! one stripe's write: the reference's side, and that both write the same -/
def rwL (f : Nat) (v : Int32) (V E : Fn) (p q : Int32) : Nat → Fn × Fn × Int32 × Int32
  | 0 => (V, E, p, q)
  | k + 1 => (upd (rwL f v V E p q k).1 (f + k) (v + nI k), upd (rwL f v V E p q k).2.1 (f + k) (v + nI k), (rwL f v V E p q k).2.2.1 ^^^ ((rwL f v V E p q k).1 (f + k) ^^^ (v + nI k)), (rwL f v V E p q k).2.2.2 ^^^ tmL ((rwL f v V E p q k).1 (f + k) ^^^ (v + nI k)) (f + k) 4)
def rDf (N b f e : Nat) (r : RS) : Prop := cntA (rP r) (nI b) N = N ∧ e - f + 2 < N - 2 - (e - f)
def rRcW (N b f e : Nat) (r : RS) : Nat := if cntA (rP r) (nI b) N = N then (if e - f + 2 < N - 2 - (e - f) then e - f + 2 else N - 2 - (e - f)) else cntA (rP r) (nI b) N
def rV0 (N b f e : Nat) (r : RS) : Fn := rVal N b (rW r) (rP r) (rV r)
def rWL (N b f e : Nat) (v : Int32) (r : RS) : Fn × Fn × Int32 × Int32 := rwL f v (rV0 N b f e r) (rE r) (rV0 N b f e r 8) (rV0 N b f e r 9) (e - f)
def rWE (N b f e : Nat) (v : Int32) (r : RS) : Fn :=
  if cntA (rP r) (nI b) N = N ∧ e - f + 2 < N - 2 - (e - f) then upd (upd (rWL N b f e v r).2.1 8 (rWL N b f e v r).2.2.1) 9 (rWL N b f e v r).2.2.2
  else upd (upd (rWL N b f e v r).2.1 8 (fgL (rWL N b f e v r).1 0 (N - 2))) 9 (wsR (rWL N b f e v r).1 (N - 2))
def rW1 (N b f e : Nat) (v : Int32) (r : RS) : RS := tE (tV (tRc r (rRc r + nI (rRcW N b f e r))) (rWL N b f e v r).1) (rWE N b f e v r)
def rSeal (b f e : Nat) (r : RS) : RS := tLt (tLf (tLs r (nI b)) (nI f)) (nI e)
def rWS (N b f e : Nat) (v : Int32) (r : RS) : Bool × RS := if (rActs (e - f + 3) (rW1 N b f e v r)).1 = false then (false, (rActs (e - f + 3) (rW1 N b f e v r)).2) else rAp N b f e (rSeal b f e (rActs (e - f + 3) (rW1 N b f e v r)).2)
-- the reference's loop
theorem rwL_V (f : Nat) (v : Int32) (V E : Fn) (p q : Int32) (k : Nat) : (rwL f v V E p q k).1 = stC V f v k := by
  induction k with
  | zero => rfl
  | succ k ih => show upd (rwL f v V E p q k).1 (f + k) (v + nI k) = upd (stC V f v k) (f + k) (v + nI k); rw [ih]
theorem rwL_E (f : Nat) (v : Int32) (V E : Fn) (p q : Int32) (k : Nat) : (rwL f v V E p q k).2.1 = stC E f v k := by
  induction k with
  | zero => rfl
  | succ k ih => show upd (rwL f v V E p q k).2.1 (f + k) (v + nI k) = upd (stC E f v k) (f + k) (v + nI k); rw [ih]
theorem stC_in (V : Fn) (f : Nat) (v : Int32) (k : Nat) {a : Nat} (h1 : f ≤ a) (h2 : a < f + k) : stC V f v k a = v + nI (a - f) := by
  induction k with
  | zero => omega
  | succ k ih =>
    show upd (stC V f v k) (f + k) (v + nI k) a = _
    by_cases e : a = f + k
    · subst e; rw [pk_us, show f + k - f = k by omega]
    · rw [pk_un e]; exact ih (by omega)
theorem stC_out (V : Fn) (f : Nat) (v : Int32) (k : Nat) {a : Nat} (h : a < f ∨ f + k ≤ a) : stC V f v k a = V a := by
  induction k with
  | zero => rfl
  | succ k ih =>
    show upd (stC V f v k) (f + k) (v + nI k) a = _
    rw [pk_un (by omega)]; exact ih (by omega)
theorem stC_c {V V' : Fn} (f : Nat) (v : Int32) (k : Nat) {a : Nat} (h : V a = V' a) : stC V f v k a = stC V' f v k a := by
  rcases (show (f ≤ a ∧ a < f + k) ∨ (a < f ∨ f + k ≤ a) by omega) with q | q
  · rw [stC_in _ _ _ _ q.1 q.2, stC_in _ _ _ _ q.1 q.2]
  · rw [stC_out _ _ _ _ q, stC_out _ _ _ _ q]; exact h
/-- changeColumns and the reference's loop: columns, P and Q go alike -/
theorem chC_rwL {N f k : Nat} {v : Int32} {V V6 E : Fn} {p q : Int32} (hN : 4 ≤ N) (hk : f + k ≤ N - 2) (hc : ∀ a, a < N - 2 → V a = V6 a) (hp : V (N - 2) = p) (hq : V (N - 1) = q) :
    (∀ a, a < N - 2 → chC N V f v k a = (rwL f v V6 E p q k).1 a) ∧ chC N V f v k (N - 2) = (rwL f v V6 E p q k).2.2.1 ∧ chC N V f v k (N - 1) = (rwL f v V6 E p q k).2.2.2 := by
  induction k with
  | zero => exact ⟨hc, hp, hq⟩
  | succ k ih =>
    obtain ⟨i1, i2, i3⟩ := ih (by omega)
    have ea := i1 (f + k) (by omega)
    show (∀ a, a < N - 2 → chS N (chC N V f v k) (f + k) (v + nI k) a = upd (rwL f v V6 E p q k).1 (f + k) (v + nI k) a) ∧ chS N (chC N V f v k) (f + k) (v + nI k) (N - 2) = (rwL f v V6 E p q k).2.2.1 ^^^ ((rwL f v V6 E p q k).1 (f + k) ^^^ (v + nI k)) ∧ chS N (chC N V f v k) (f + k) (v + nI k) (N - 1) = (rwL f v V6 E p q k).2.2.2 ^^^ tmL ((rwL f v V6 E p q k).1 (f + k) ^^^ (v + nI k)) (f + k) 4
    unfold chS
    refine ⟨fun a ha => ?_, ?_, ?_⟩
    · rw [pk_un (by omega), pk_un (by omega)]
      exact upd_c (i1 a ha) rfl
    · rw [pk_un (by omega), pk_us, pk_un (by omega), i2, ea]
    · rw [pk_us, pk_un (by omega), pk_un (by omega), i3, ea, tm_eq]
theorem setC_P {N f k : Nat} {v : Int32} {V : Fn} (hN : 4 ≤ N) (hk : f + k ≤ N - 2) : (∀ a, a < N - 2 → setC N V f k v a = stC V f v k a) ∧ setC N V f k v (N - 2) = fgL (stC V f v k) 0 (N - 2) ∧ setC N V f k v (N - 1) = wsA (stC V f v k) 0 (N - 2) := by
  unfold setC
  refine ⟨fun a ha => ?_, ?_, ?_⟩
  · rw [mS_o _ (by omega), mF_o _ (by omega)]
  · rw [mS_o _ (by omega), mF_P]
  · rw [mS_Q]
    exact wsA_c (fun a ha => mF_o _ (by omega))
theorem cpy_in (N : Nat) (V X : Fn) (k : Nat) {a : Nat} (h : a < k) : cpy N V X k a = V a := by
  induction k with
  | zero => omega
  | succ k ih =>
    show upd (cpy N V X k) k (V k) a = _
    by_cases e : a = k
    · subst e; rw [pk_us]
    · rw [pk_un e]; exact ih (by omega)
-- acts in a row
theorem cActs_s (k : Nat) (c : CS) : cActs (k + 1) c = if (cActs k c).1 = false then (false, (cActs k c).2) else cBeg (cActs k c).2 := by
  induction k generalizing c with
  | zero =>
    show (if (cBeg c).1 = false then (false, (cBeg c).2) else (true, (cBeg c).2)) = cBeg c
    generalize cBeg c = y
    obtain ⟨y1, y2⟩ := y
    cases y1 <;> rfl
  | succ k ih =>
    have e1 : ∀ n, cActs (n + 1) c = if (cBeg c).1 = false then (false, (cBeg c).2) else cActs n (cBeg c).2 := fun n => rfl
    by_cases q : (cBeg c).1 = false
    · rw [e1 (k + 1), e1 k, if_pos q, if_pos q, if_pos rfl]
    · rw [e1 (k + 1), e1 k, if_neg q, if_neg q, ih]
theorem acts_J {J Jf : CS → RS → Prop} (ha : ∀ c r, J c r → QJ J Jf (cBeg c) (rAct r)) : ∀ (k : Nat) (c : CS) (r : RS), J c r → QJ J Jf (cActs k c) (rActs k r) := by
  intro k
  induction k with
  | zero => intro c r h; exact QJ_true h
  | succ k ih => intro c r h; exact QJ_bind (F := fun c => cActs k c) (G := fun r => rActs k r) (ha c r h) ih
theorem lgc_acts (k : Nat) (c : CS) : lgc (cActs k c).2 = lgc c := by
  induction k generalizing c with
  | zero => rfl
  | succ k ih =>
    show lgc (if (cBeg c).1 = false then (false, (cBeg c).2) else cActs k (cBeg c).2).2 = _
    split
    · exact lgc_beg c
    · rw [ih]; exact lgc_beg c
theorem lgr_acts (k : Nat) (r : RS) : lgr (rActs k r).2 = lgr r := by
  induction k generalizing r with
  | zero => rfl
  | succ k ih =>
    show lgr (if (rAct r).1 = false then (false, (rAct r).2) else rActs k (rAct r).2).2 = _
    split
    · exact lgr_act r
    · rw [ih]; exact lgr_act r
/-- before an entry is sealed: both have the same columns and parities ready -/
def RD (N f e : Nat) (c : CS) (r : RS) : Prop := (∀ i, f ≤ i → i < e → cV c i = rE r i) ∧ cV c (N - 2) = rE r 8 ∧ cV c (N - 1) = rE r 9
def J3 (N S f e : Nat) (c : CS) (r : RS) : Prop := RA N S c r ∧ (cLs c = -1 ∧ rLs r = -1) ∧ RD N f e c r
def J3f (N S : Nat) (c : CS) (r : RS) : Prop := RA N S c r ∧ ((cLs c = -1 ∧ rLs r = -1) ∨ ∃ b f e, b < S ∧ f ≤ e ∧ e ≤ N - 2 ∧ RLg N b f e c r) ∧ cDn c = 1
theorem J3_act {N S f e : Nat} {c : CS} {r : RS} (h : J3 N S f e c r) : QJ (J3 N S f e) (J3f N S) (cBeg c) (rAct r) := by
  obtain ⟨h1, h2, h3⟩ := h
  obtain ⟨a1, a2⟩ := RA_act h1
  have hc := lgc_beg c
  have hr := lgr_act r
  simp only [lgc, lgr, Prod.mk.injEq] at hc hr
  obtain ⟨b1, b2, b3, b4, b5, b6⟩ := hc
  obtain ⟨d1, d2, d3, d4, d5, d6⟩ := hr
  have h2' : cLs (cBeg c).2 = -1 ∧ rLs (rAct r).2 = -1 := by rw [b1, d1]; exact h2
  have h3' : RD N f e (cBeg c).2 (rAct r).2 := by unfold RD; rw [b6, d4]; exact h3
  exact ⟨a1, fun _ => ⟨a2, h2', h3'⟩, fun q => ⟨a2, Or.inl h2', beg_dn q⟩⟩
theorem J3_seal {N S b f e : Nat} {c : CS} {r : RS} (hN4 : 4 ≤ N) (he : e ≤ N - 2) (h : J3 N S f e c r) : J1 N S b f e (cSeal N b f (e - f) c) (rSeal b f e r) := by
  obtain ⟨h1, h2, h3, h4, h5⟩ := h
  refine ⟨h1, rfl, rfl, rfl, rfl, rfl, rfl, fun i hi hi2 => ?_, ?_, ?_⟩
  · show cpy N (cV c) (cX c) N i = rE r i
    rw [cpy_in _ _ _ _ (by omega)]; exact h3 i hi hi2
  · show cpy N (cV c) (cX c) N (N - 2) = rE r 8
    rw [cpy_in _ _ _ _ (by omega)]; exact h4
  · show cpy N (cV c) (cX c) N (N - 1) = rE r 9
    rw [cpy_in _ _ _ _ (by omega)]; exact h5
theorem QJ_weak {J J2 Jf Jf2 : CS → RS → Prop} {x : Bool × CS} {y : Bool × RS} (h : QJ J Jf x y) (h1 : ∀ c r, J c r → J2 c r) (h2 : ∀ c r, Jf c r → Jf2 c r) : QJ J2 Jf2 x y := ⟨h.1, fun q => h1 _ _ (h.2.1 q), fun q => h2 _ _ (h.2.2 q)⟩
/-- log, seal, carry out: both alike -/
theorem log_ap {N S b f e : Nat} (hN4 : 4 ≤ N) (hN : N ≤ 10) (hS : S ≤ 16) (hb : b < S) (he : e ≤ N - 2) (hfe : f ≤ e) {c : CS} {r : RS} (h : J3 N S f e c r) :
    QJ (J0 N S) (J3f N S) (if (cLog N b f (e - f) c).1 = false then (false, (cLog N b f (e - f) c).2) else cCar N S b (cLog N b f (e - f) c).2)
      (if (rActs (e - f + 3) r).1 = false then (false, (rActs (e - f + 3) r).2) else rAp N b f e (rSeal b f e (rActs (e - f + 3) r).2)) := by
  have h1 := acts_J (J := J3 N S f e) (Jf := J3f N S) (fun c r h => J3_act h) (e - f + 3) c r h
  have h2 := QJ_bind (F := fun c => cCar N S b (cSeal N b f (e - f) c)) (G := fun r => rAp N b f e (rSeal b f e r)) (J2 := J0 N S) h1 (fun c r h => QJ_weak (car_ap hN4 hN hS hb he hfe (J3_seal hN4 he h)) (fun _ _ q => q) (fun c r q => ⟨q.1, Or.inr ⟨b, f, e, hb, hfe, he, q.2.1⟩, q.2.2⟩))
  have e1 : (if (cLog N b f (e - f) c).1 = false then (false, (cLog N b f (e - f) c).2) else cCar N S b (cLog N b f (e - f) c).2) = (if (cActs (e - f + 3) c).1 = false then (false, (cActs (e - f + 3) c).2) else cCar N S b (cSeal N b f (e - f) (cActs (e - f + 3) c).2)) := by
    rw [show e - f + 3 = (e - f + 2) + 1 by omega, cActs_s]
    unfold cLog
    by_cases q : (cActs (e - f + 2) c).1 = false
    · rw [if_pos q, if_pos q, if_pos rfl, if_pos rfl]
    · rw [if_neg q, if_neg q]
      by_cases q2 : (cBeg (cActs (e - f + 2) c).2).1 = false
      · rw [if_pos q2, if_pos rfl, if_pos q2]
      · rw [if_neg q2, if_neg (by simp), if_neg q2]
  rw [e1]
  exact h2
theorem col_J3 {N S b f e : Nat} {v : Int32} (hN4 : 4 ≤ N) (hN : N ≤ 10) (hb : b < S) (he : e ≤ N - 2) (hfe : f ≤ e) {c : CS} {r : RS} (h2 : two N b (cP c)) (h : J0 N S c r) : J3 N S f e (cCol N S b f (e - f) v c) (rW1 N b f e v r) := by
  obtain ⟨⟨h1, hdn, h3, h4, h5, h6, h7, h8, h9⟩, hl⟩ := h
  obtain ⟨v1, v2, v3⟩ := val_eq (V := cV c) (V6 := rV r) hN4 hN (fun d hd => h7 d b hd hb) h2
  have eV0 : rV0 N b f e r = rVal N b (rW r) (cP c) (rV r) := by unfold rV0; rw [h8]
  rw [← eV0] at v1 v2 v3
  have eC : cntA (cP (cLd N S b c)) (nI b) N = cntA (rP r) (nI b) N := by rw [← h8]; rfl
  have eR : cRc (cLd N S b c) = rRc r := h4
  have eL : cV (cLd N S b c) = ldV N S b (cW c) (cP c) (cV c) := rfl
  have inE : ∀ (x y : Int32) i, f ≤ i → i < e → upd (upd (rWL N b f e v r).2.1 8 x) 9 y i = v + nI (i - f) := fun x y i hi hi2 => by
    rw [pk_un (by omega), pk_un (by omega)]
    unfold rWL
    rw [rwL_E, stC_in _ _ _ _ hi (by omega)]
  have low : ∀ i, i < N - 2 → stC (ldV N S b (cW c) (cP c) (cV c)) f v (e - f) i = (rWL N b f e v r).1 i := fun i hi => by
    unfold rWL
    rw [rwL_V]
    exact stC_c _ _ _ (v1 i hi).symm
  have key : ∀ (n : Nat) (X : Fn), nI n = nI (rRcW N b f e r) → (∀ i, f ≤ i → i < e → X i = rWE N b f e v r i) → X (N - 2) = rWE N b f e v r 8 → X (N - 1) = rWE N b f e v r 9 → J3 N S f e (sV (sRc (cLd N S b c) (cRc (cLd N S b c) + nI n)) X) (rW1 N b f e v r) := by
    intro n X hn hX1 hX2 hX3
    refine ⟨⟨h1, hdn, h3, ?_, h5, h6, h7, h8, h9⟩, hl, hX1, hX2, hX3⟩
    show cRc (cLd N S b c) + nI n = rRc r + nI (rRcW N b f e r)
    rw [eR, hn]
  have kset : ∀ n : Nat, nI n = nI (rRcW N b f e r) → ¬ (cntA (rP r) (nI b) N = N ∧ e - f + 2 < N - 2 - (e - f)) → J3 N S f e (sV (sRc (cLd N S b c) (cRc (cLd N S b c) + nI n)) (setC N (cV (cLd N S b c)) f (e - f) v)) (rW1 N b f e v r) := by
    intro n hn hd
    obtain ⟨s1, s2, s3⟩ := setC_P (v := v) (V := ldV N S b (cW c) (cP c) (cV c)) hN4 (show f + (e - f) ≤ N - 2 by omega)
    refine key n _ hn ?_ ?_ ?_
    · intro i hi hi2
      rw [eL, s1 i (by omega), stC_in _ _ _ _ hi (by omega)]
      unfold rWE
      rw [if_neg hd, inE _ _ i hi hi2]
    · rw [eL, s2]
      unfold rWE
      rw [if_neg hd, pk_un (by decide), pk_us]
      exact fgL_c _ low
    · rw [eL, s3]
      unfold rWE
      rw [if_neg hd, pk_us, wsR_eq]
      exact wsA_c low
  unfold cCol
  rw [eC]
  by_cases q1 : cntA (rP r) (nI b) N = N
  · rw [if_pos q1]
    by_cases q2 : e - f + 2 < N - 2 - (e - f)
    · rw [if_pos q2]
      obtain ⟨s1, s2, s3⟩ := chC_rwL (v := v) (V := ldV N S b (cW c) (cP c) (cV c)) (V6 := rV0 N b f e r) (E := rE r) hN4 (show f + (e - f) ≤ N - 2 by omega) (fun a ha => (v1 a ha).symm) v2.symm v3.symm
      refine key (e - f + 2) _ (by unfold rRcW; rw [if_pos q1, if_pos q2]) ?_ ?_ ?_
      · intro i hi hi2
        rw [eL, s1 i (by omega), rwL_V, stC_in _ _ _ _ hi (by omega)]
        unfold rWE
        rw [if_pos ⟨q1, q2⟩, inE _ _ i hi hi2]
      · rw [eL, s2]
        unfold rWE
        rw [if_pos ⟨q1, q2⟩, pk_un (by decide), pk_us]
        rfl
      · rw [eL, s3]
        unfold rWE
        rw [if_pos ⟨q1, q2⟩, pk_us]
        rfl
    · rw [if_neg q2]
      exact kset _ (by unfold rRcW; rw [if_pos q1, if_neg q2]) (fun z => q2 z.2)
  · rw [if_neg q1]
    exact kset _ (by unfold rRcW; rw [if_neg q1]) (fun z => q1 z.1)
/-- a stripe's write: both alike -/
theorem ws_eq {N S b f e : Nat} {v : Int32} (hN4 : 4 ≤ N) (hN : N ≤ 10) (hS : S ≤ 16) (hb : b < S) (he : e ≤ N - 2) (hfe : f ≤ e) {c : CS} {r : RS} (h2 : two N b (cP c)) (h : J0 N S c r) : QJ (J0 N S) (J3f N S) (cWC N S b f (e - f) v c) (rWS N b f e v r) :=
  log_ap hN4 hN hS hb he hfe (col_J3 hN4 hN hb he hfe h2 h)
