/-! rows for the outer class's walks -/
theorem cActs_t {k : Nat} {c : CS} (h : (cBeg c).1 = false) : cActs (k + 1) c = (false, (cBeg c).2) := if_pos h
theorem cActs_f {k : Nat} {c : CS} (h : (cBeg c).1 = true) : cActs (k + 1) c = cActs k (cBeg c).2 := if_neg (by rw [h]; decide)
section CarRows
variable {N S b k i : Nat} {c : CS}
theorem car_n (hi : i + (k + 1) = N) (h : ¬ (N - 2 ≤ i ∨ (cLf c ≤ nI i ∧ nI i < cLf c + cLc c))) : cCarL N S b (k + 1) c = cCarL N S b k c := by
  obtain rfl : N - (k + 1) = i := by omega
  exact if_neg h
theorem car_a (hi : i + (k + 1) = N) (h : N - 2 ≤ i ∨ (cLf c ≤ nI i ∧ nI i < cLf c + cLc c)) (h2 : ¬ nI b < cP c (dk N i b)) : cCarL N S b (k + 1) c = cCarL N S b k c := by
  obtain rfl : N - (k + 1) = i := by omega
  exact (if_pos h).trans (if_neg h2)
theorem car_t (hi : i + (k + 1) = N) (h : N - 2 ≤ i ∨ (cLf c ≤ nI i ∧ nI i < cLf c + cLc c)) (h2 : nI b < cP c (dk N i b)) (h3 : (cWr S (dk N i b) b (cX c i) c).1 = false) : cCarL N S b (k + 1) c = (false, (cWr S (dk N i b) b (cX c i) c).2) := by
  obtain rfl : N - (k + 1) = i := by omega
  exact (if_pos h).trans ((if_pos h2).trans (if_pos h3))
theorem car_f (hi : i + (k + 1) = N) (h : N - 2 ≤ i ∨ (cLf c ≤ nI i ∧ nI i < cLf c + cLc c)) (h2 : nI b < cP c (dk N i b)) (h3 : (cWr S (dk N i b) b (cX c i) c).1 = true) : cCarL N S b (k + 1) c = cCarL N S b k (cWr S (dk N i b) b (cX c i) c).2 := by
  obtain rfl : N - (k + 1) = i := by omega
  exact (if_pos h).trans ((if_pos h2).trans (if_neg (by rw [h3]; decide)))
end CarRows
theorem cRunL_t {N S b n k s : Nat} {v : Int32} {c : CS} (h : (cWC N S s (max b (s * (N - 2)) - s * (N - 2)) (min (b + n) (s * (N - 2) + (N - 2)) - max b (s * (N - 2))) (v + nI (max b (s * (N - 2)) - b)) c).1 = false) : cRunL N S b n v (k + 1) s c = (false, (cWC N S s (max b (s * (N - 2)) - s * (N - 2)) (min (b + n) (s * (N - 2) + (N - 2)) - max b (s * (N - 2))) (v + nI (max b (s * (N - 2)) - b)) c).2) := if_pos h
theorem cRunL_f {N S b n k s : Nat} {v : Int32} {c : CS} (h : (cWC N S s (max b (s * (N - 2)) - s * (N - 2)) (min (b + n) (s * (N - 2) + (N - 2)) - max b (s * (N - 2))) (v + nI (max b (s * (N - 2)) - b)) c).1 = true) : cRunL N S b n v (k + 1) s c = cRunL N S b n v k (s + 1) (cWC N S s (max b (s * (N - 2)) - s * (N - 2)) (min (b + n) (s * (N - 2) + (N - 2)) - max b (s * (N - 2))) (v + nI (max b (s * (N - 2)) - b)) c).2 := if_neg (by rw [h]; decide)
theorem log_ls {N b f k : Nat} {c : CS} (h : (cLog N b f k c).1 = true) : cLs (cLog N b f k c).2 = nI b := by
  unfold cLog at h ⊢
  generalize cActs (k + 2) c = x at h ⊢
  generalize cBeg x.2 = y at h ⊢
  by_cases q : x.1 = false
  · rw [if_pos q] at h; cases h
  · rw [if_neg q] at h ⊢
    by_cases q2 : y.1 = false
    · rw [if_pos q2] at h; cases h
    · rw [if_neg q2]; rfl
theorem wr_n {n : Int32} {m : Nat} (hm : m < 2 ^ 31) (h1 : ¬ n < 1) (h2 : n ≤ nI m) : 1 ≤ tn n ∧ tn n ≤ m ∧ n = nI (tn n) := by
  have h0 : ¬ n < 0 := fun z => h1 (Int32.lt_trans z (by decide))
  obtain ⟨j, hj, rfl⟩ : ∃ j, j ≤ m ∧ n = nI j := nI_of2 (nI_toInt hm) h0 h2
  rw [tn_nI (by omega)]
  have z : ¬ j < 1 := fun w => h1 ((nI_ltI (a := j) (b := 1) (by omega) (by omega)).mpr w)
  exact ⟨by omega, hj, rfl⟩
theorem rs_b {S : Nat} {x : Int32} (hS : S ≤ 16) (h : x = -1 ∨ ∃ b, b < S ∧ x = nI b) (h1 : ¬ x = -1) : tn x < S ∧ x = nI (tn x) := by
  rcases h with h | ⟨a, ha, rfl⟩
  · exact absurd h h1
  · rw [tn_nI (by omega)]; exact ⟨ha, rfl⟩
theorem rb_nx {N S : Nat} {P : Fn} (hN : N ≤ 10) (hS : S ≤ 16) (hP : RPos N S P) (h : ¬ (nxt P S N).1 = -1) : tn (nxt P S N).1 < N ∧ (nxt P S N).1 = nI (tn (nxt P S N).1) ∧ tn (P (tn (nxt P S N).1)) < S ∧ P (tn (nxt P S N).1) = nI (tn (P (tn (nxt P S N).1))) := by
  rcases (nxt_AM hS hN hP N (Nat.le_refl _)).1 with ⟨-, g2⟩ | ⟨d, -, g2, g3, g4, -⟩
  · exact absurd g2 h
  · rw [g4, tn_nI (by omega)]
    refine ⟨g2, rfl, ?_⟩
    rcases hP d g2 with z | ⟨k, hk, z⟩
    · exact absurd g3.1 (by rw [z]; decide)
    · have := g3.2
      rw [z] at this ⊢
      rw [tn_nI (by omega)]
      exact ⟨(nI_ltI (by omega) (by omega)).mp this, rfl⟩
theorem saf_tn {N : Nat} {V : Fn} (hN4 : 4 ≤ N) (hN : N ≤ 10) (h : ¬ saf N V = -1) : tn (saf N V) < N ∧ saf N V = nI (tn (saf N V)) := by
  have key : saf N V = -1 ∨ ∃ a, a < N ∧ saf N V = nI a := by
    unfold saf
    split
    · exact Or.inr ⟨N - 2, by omega, rfl⟩
    · split
      · exact Or.inr ⟨N - 1, by omega, rfl⟩
      · rcases sfI_none (p := fg N V) (q := sg N V) (m := N - 2) (by omega) (N - 2) (Nat.le_refl _) with ⟨g1, g2⟩ | ⟨i, g1, g2, g3, g4, g5⟩
        · exact Or.inl g1
        · exact Or.inr ⟨i, by omega, g3⟩
  exact rs_sl hN key h
def wth (x lo hi : Int32) : Int32 := if lo < (if x < hi then x else hi) then (if x < hi then x else hi) else lo
section ColRows
variable {N S b f n : Nat} {v : Int32} {z : CS}
theorem cWC_a (h : cntA (cP (sV z (ldV N S b (cW z) (cP z) (cV z)))) (nI b) N = N) (h2 : n + 2 < N - 2 - n) : cWC N S b f n v z = if (cLog N b f n (sV (sRc (sV z (ldV N S b (cW z) (cP z) (cV z))) (cRc (sV z (ldV N S b (cW z) (cP z) (cV z))) + nI (n + 2))) (chC N (cV (sRc (sV z (ldV N S b (cW z) (cP z) (cV z))) (cRc (sV z (ldV N S b (cW z) (cP z) (cV z))) + nI (n + 2)))) f v n))).1 = false then (false, (cLog N b f n (sV (sRc (sV z (ldV N S b (cW z) (cP z) (cV z))) (cRc (sV z (ldV N S b (cW z) (cP z) (cV z))) + nI (n + 2))) (chC N (cV (sRc (sV z (ldV N S b (cW z) (cP z) (cV z))) (cRc (sV z (ldV N S b (cW z) (cP z) (cV z))) + nI (n + 2)))) f v n))).2) else cCar N S b (cLog N b f n (sV (sRc (sV z (ldV N S b (cW z) (cP z) (cV z))) (cRc (sV z (ldV N S b (cW z) (cP z) (cV z))) + nI (n + 2))) (chC N (cV (sRc (sV z (ldV N S b (cW z) (cP z) (cV z))) (cRc (sV z (ldV N S b (cW z) (cP z) (cV z))) + nI (n + 2)))) f v n))).2 := by
  have e : cCol N S b f n v z = (sV (sRc (sV z (ldV N S b (cW z) (cP z) (cV z))) (cRc (sV z (ldV N S b (cW z) (cP z) (cV z))) + nI (n + 2))) (chC N (cV (sRc (sV z (ldV N S b (cW z) (cP z) (cV z))) (cRc (sV z (ldV N S b (cW z) (cP z) (cV z))) + nI (n + 2)))) f v n)) := (if_pos h).trans (if_pos h2)
  unfold cWC
  rw [e]
theorem cWC_b (h : cntA (cP (sV z (ldV N S b (cW z) (cP z) (cV z)))) (nI b) N = N) (h2 : ¬ n + 2 < N - 2 - n) : cWC N S b f n v z = if (cLog N b f n (sV (sRc (sV z (ldV N S b (cW z) (cP z) (cV z))) (cRc (sV z (ldV N S b (cW z) (cP z) (cV z))) + nI (N - 2 - n))) (setC N (cV (sRc (sV z (ldV N S b (cW z) (cP z) (cV z))) (cRc (sV z (ldV N S b (cW z) (cP z) (cV z))) + nI (N - 2 - n)))) f n v))).1 = false then (false, (cLog N b f n (sV (sRc (sV z (ldV N S b (cW z) (cP z) (cV z))) (cRc (sV z (ldV N S b (cW z) (cP z) (cV z))) + nI (N - 2 - n))) (setC N (cV (sRc (sV z (ldV N S b (cW z) (cP z) (cV z))) (cRc (sV z (ldV N S b (cW z) (cP z) (cV z))) + nI (N - 2 - n)))) f n v))).2) else cCar N S b (cLog N b f n (sV (sRc (sV z (ldV N S b (cW z) (cP z) (cV z))) (cRc (sV z (ldV N S b (cW z) (cP z) (cV z))) + nI (N - 2 - n))) (setC N (cV (sRc (sV z (ldV N S b (cW z) (cP z) (cV z))) (cRc (sV z (ldV N S b (cW z) (cP z) (cV z))) + nI (N - 2 - n)))) f n v))).2 := by
  have e : cCol N S b f n v z = (sV (sRc (sV z (ldV N S b (cW z) (cP z) (cV z))) (cRc (sV z (ldV N S b (cW z) (cP z) (cV z))) + nI (N - 2 - n))) (setC N (cV (sRc (sV z (ldV N S b (cW z) (cP z) (cV z))) (cRc (sV z (ldV N S b (cW z) (cP z) (cV z))) + nI (N - 2 - n)))) f n v)) := (if_pos h).trans (if_neg h2)
  unfold cWC
  rw [e]
theorem cWC_c (h : ¬ cntA (cP (sV z (ldV N S b (cW z) (cP z) (cV z)))) (nI b) N = N) : cWC N S b f n v z = if (cLog N b f n (sV (sRc (sV z (ldV N S b (cW z) (cP z) (cV z))) (cRc (sV z (ldV N S b (cW z) (cP z) (cV z))) + nI (cntA (cP (sV z (ldV N S b (cW z) (cP z) (cV z)))) (nI b) N))) (setC N (cV (sRc (sV z (ldV N S b (cW z) (cP z) (cV z))) (cRc (sV z (ldV N S b (cW z) (cP z) (cV z))) + nI (cntA (cP (sV z (ldV N S b (cW z) (cP z) (cV z)))) (nI b) N)))) f n v))).1 = false then (false, (cLog N b f n (sV (sRc (sV z (ldV N S b (cW z) (cP z) (cV z))) (cRc (sV z (ldV N S b (cW z) (cP z) (cV z))) + nI (cntA (cP (sV z (ldV N S b (cW z) (cP z) (cV z)))) (nI b) N))) (setC N (cV (sRc (sV z (ldV N S b (cW z) (cP z) (cV z))) (cRc (sV z (ldV N S b (cW z) (cP z) (cV z))) + nI (cntA (cP (sV z (ldV N S b (cW z) (cP z) (cV z)))) (nI b) N)))) f n v))).2) else cCar N S b (cLog N b f n (sV (sRc (sV z (ldV N S b (cW z) (cP z) (cV z))) (cRc (sV z (ldV N S b (cW z) (cP z) (cV z))) + nI (cntA (cP (sV z (ldV N S b (cW z) (cP z) (cV z)))) (nI b) N))) (setC N (cV (sRc (sV z (ldV N S b (cW z) (cP z) (cV z))) (cRc (sV z (ldV N S b (cW z) (cP z) (cV z))) + nI (cntA (cP (sV z (ldV N S b (cW z) (cP z) (cV z)))) (nI b) N)))) f n v))).2 := by
  have e : cCol N S b f n v z = (sV (sRc (sV z (ldV N S b (cW z) (cP z) (cV z))) (cRc (sV z (ldV N S b (cW z) (cP z) (cV z))) + nI (cntA (cP (sV z (ldV N S b (cW z) (cP z) (cV z)))) (nI b) N))) (setC N (cV (sRc (sV z (ldV N S b (cW z) (cP z) (cV z))) (cRc (sV z (ldV N S b (cW z) (cP z) (cV z))) + nI (cntA (cP (sV z (ldV N S b (cW z) (cP z) (cV z)))) (nI b) N)))) f n v)) := if_neg h
  unfold cWC
  rw [e]
end ColRows
