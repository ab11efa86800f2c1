/-! what the class's methods compute, as plain functions -/
abbrev Fn : Type := Nat → Int32
def bi (b : Bool) : Int32 := if b then 1 else 0
def tn (x : Int32) : Nat := x.toNatClampNeg
theorem tn_nI {a : Nat} (h : a < 2 ^ 31) : tn (nI a) = a := nI_clamp h
theorem bi_z {b : Bool} : bi b = 0 ↔ b = false := by cases b <;> decide
theorem bi_nz {b : Bool} : ¬ bi b = 0 ↔ b = true := by cases b <;> decide
theorem bi_t : bi true = 1 := rfl
theorem bi_f : bi false = 0 := rfl
theorem bi_n (b : Bool) : narrow .boolean (.int (bi b)) = .int (bi b) := by cases b <;> rfl
-- words
def dbl (w : Int32) : Int32 := ((w &&& 2139062143) <<< ((1 : Int32) &&& 31)) ^^^ (((w.toUInt32 >>> ((7 : Int32).toUInt32 &&& Int32.toUInt32 31)).toInt32 &&& 16843009) * 29)
def hlv (w : Int32) : Int32 := ((w.toUInt32 >>> ((1 : Int32).toUInt32 &&& Int32.toUInt32 31)).toInt32 &&& 2139062143) ^^^ ((w &&& 16843009) * 142)
def dblN : Nat → Int32 → Int32
  | 0, w => w
  | n + 1, w => dbl (dblN n w)
def hlvN : Nat → Int32 → Int32
  | 0, w => w
  | n + 1, w => hlv (hlvN n w)
def tabI : Nat → Int32
  | 1 => 244
  | 2 => 167
  | 3 => 157
  | 4 => 114
  | 5 => 237
  | 6 => 95
  | 7 => 84
  | _ => 0
def dvR (f w : Int32) : Nat → Int32
  | 0 => 0
  | n + 1 => if ((f.toUInt32 >>> ((nI n).toUInt32 &&& Int32.toUInt32 31)).toInt32 &&& 1) = 0 then dvR f w n else dvR f w n ^^^ dblN n w
def dv1 (j : Nat) (w : Int32) : Int32 := dvR (tabI j) w 8
-- disks
def dP (N b : Nat) : Nat := N - 1 - b % N
def dk (N a b : Nat) : Nat := (dP N b + 2 + a) % N
def slt (N d b : Nat) : Nat := (d + 2 * N - 2 - dP N b) % N
def cntA (P : Fn) (x : Int32) : Nat → Nat
  | 0 => 0
  | n + 1 => if x < P n then cntA P x n + 1 else cntA P x n
def cntB (P : Fn) (x : Int32) : Nat → Nat
  | 0 => 0
  | n + 1 => if P n < x then cntB P x n + 1 else cntB P x n
def nxt (P : Fn) (S : Nat) : Nat → Int32 × Int32
  | 0 => (-1, nI S)
  | n + 1 => if P n = -1 then nxt P S n else if P n < (nxt P S n).2 then (nI n, P n) else nxt P S n
theorem cntA_le (P : Fn) (x : Int32) (n : Nat) : cntA P x n ≤ n := by
  induction n with
  | zero => exact Nat.le_refl _
  | succ n ih => unfold cntA; split <;> omega
theorem cntB_le (P : Fn) (x : Int32) (n : Nat) : cntB P x n ≤ n := by
  induction n with
  | zero => exact Nat.le_refl _
  | succ n ih => unfold cntB; split <;> omega
theorem dP_lt {N b : Nat} (h : 0 < N) : dP N b < N := by unfold dP; omega
theorem dk_lt {N a b : Nat} (h : 0 < N) : dk N a b < N := Nat.mod_lt _ h
theorem slt_lt {N d b : Nat} (h : 0 < N) : slt N d b < N := Nat.mod_lt _ h
theorem ix_lt {a b N S : Nat} (ha : a < N) (hb : b < S) : a * S + b < N * S := by
  have h : (a + 1) * S ≤ N * S := Nat.mul_le_mul_right S ha
  rw [Nat.add_mul] at h
  omega
theorem ix_le {N S : Nat} (hN : N ≤ 10) (hS : S ≤ 16) : N * S ≤ 160 := Nat.mul_le_mul hN hS
-- a stripe's values
def fgL (V : Fn) (p : Int32) : Nat → Int32
  | 0 => p
  | n + 1 => fgL V p n ^^^ V n
def fg (N : Nat) (V : Fn) : Int32 := fgL V (V (N - 2)) (N - 2)
def sgL (V : Fn) (m : Nat) : Nat → Int32
  | 0 => 0
  | k + 1 => dbl (sgL V m k) ^^^ V (m - 1 - k)
def sg (N : Nat) (V : Fn) : Int32 := V (N - 1) ^^^ sgL V (N - 2) (N - 2)
def mF (N : Nat) (V : Fn) : Fn := upd V (N - 2) (V (N - 2) ^^^ fg N V)
def mS (N : Nat) (V : Fn) : Fn := upd V (N - 1) (V (N - 1) ^^^ sg N V)
def rsY (N : Nat) (V : Fn) (fl sl : Int32) : Int32 := dv1 ((sl - fl) &&& 7).toNatClampNeg (fg N V ^^^ hlvN (tn fl) (sg N V))
def rsC (N : Nat) (V : Fn) (fl sl : Int32) : Fn :=
  if fl = -1 then V else if nI (N - 2) ≤ fl then V else
  if sl = -1 then upd V (tn fl) (fg N V) else if sl = nI (N - 1) then upd V (tn fl) (fg N V) else
  if sl = nI (N - 2) then upd V (tn fl) (hlvN (tn fl) (sg N V)) else
  upd (upd V (tn fl) (fg N V ^^^ rsY N V fl sl)) (tn sl) (rsY N V fl sl)
def ldL (N S b : Nat) (W P V : Fn) : Nat → Fn × Int32 × Int32
  | 0 => (V, -1, -1)
  | n + 1 =>
    if nI b < P (dk N n b) then (upd (ldL N S b W P V n).1 n (W (dk N n b * S + b)), (ldL N S b W P V n).2.1, (ldL N S b W P V n).2.2)
    else if (ldL N S b W P V n).2.1 = -1 then (upd (ldL N S b W P V n).1 n 0, nI n, (ldL N S b W P V n).2.2)
    else (upd (ldL N S b W P V n).1 n 0, (ldL N S b W P V n).2.1, nI n)
def ldR (N S b : Nat) (W P V : Fn) : Fn := rsC N (ldL N S b W P V N).1 (ldL N S b W P V N).2.1 (ldL N S b W P V N).2.2
def ldP (N S b : Nat) (W P V : Fn) : Fn := if (ldL N S b W P V N).2.1 = nI (N - 2) then mF N (ldR N S b W P V) else if (ldL N S b W P V N).2.2 = nI (N - 2) then mF N (ldR N S b W P V) else ldR N S b W P V
def ldV (N S b : Nat) (W P V : Fn) : Fn := if (ldL N S b W P V N).2.1 = nI (N - 1) then mS N (ldP N S b W P V) else if (ldL N S b W P V N).2.2 = nI (N - 1) then mS N (ldP N S b W P V) else ldP N S b W P V
def sfI (p q : Int32) (m : Nat) : Nat → Int32
  | 0 => -1
  | k + 1 => if dblN (m - (k + 1)) p = q then nI (m - (k + 1)) else sfI p q m k
def saf (N : Nat) (V : Fn) : Int32 := if sg N V = 0 then nI (N - 2) else if fg N V = 0 then nI (N - 1) else sfI (fg N V) (sg N V) (N - 2) (N - 2)
def mend (N : Nat) (V : Fn) (a : Nat) : Int32 := V a ^^^ (if a = N - 1 then sg N V else fg N V)
def stC (V : Fn) (f : Nat) (v : Int32) : Nat → Fn
  | 0 => V
  | k + 1 => upd (stC V f v k) (f + k) (v + nI k)
def setC (N : Nat) (V : Fn) (f k : Nat) (v : Int32) : Fn := mS N (mF N (stC V f v k))
def chS (N : Nat) (V : Fn) (a : Nat) (w : Int32) : Fn :=
  upd (upd (upd V a w) (N - 2) (upd V a w (N - 2) ^^^ (V a ^^^ w))) (N - 1) (upd (upd V a w) (N - 2) (upd V a w (N - 2) ^^^ (V a ^^^ w)) (N - 1) ^^^ dblN a (V a ^^^ w))
def chC (N : Nat) (V : Fn) (f : Nat) (v : Int32) : Nat → Fn
  | 0 => V
  | k + 1 => chS N (chC N V f v k) (f + k) (v + nI k)
