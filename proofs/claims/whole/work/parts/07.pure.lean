/-! ===== the numbers' side of Column: pure words ===== -/
theorem MM_ext {M N : MM} (h1 : ∀ t i k, M.1 t i k = N.1 t i k) (h2 : ∀ t i k, M.2.1 t i k = N.2.1 t i k) (h3 : ∀ t i k, M.2.2 t i k = N.2.2 t i k) : M = N := by
  obtain ⟨a, b, c⟩ := M
  obtain ⟨a', b', c'⟩ := N
  have e1 : a = a' := funext fun t => funext fun i => funext fun k => h1 t i k
  have e2 : b = b' := funext fun t => funext fun i => funext fun k => h2 t i k
  have e3 : c = c' := funext fun t => funext fun i => funext fun k => h3 t i k
  rw [e1, e2, e3]
/-- 8.0, 2^63, -2^63 as bits -/
abbrev c8 : UInt64 := 4620693217682128896
abbrev f8 : UInt32 := 1090519040
abbrev c63 : UInt64 := 4890909195324358656
abbrev cm63 : UInt64 := 14114281232179134464
def lowB (v : Int64) (k : Int32) : Int64 := if k = 0 then v.toInt32.toInt8.toInt32.toInt64 else if k = 1 then v.toInt32.toInt16.toInt32.toInt64 else if k = 2 then (v.toInt32.toUInt32 % 65536).toInt32.toInt64 else if k = 3 then v.toInt32.toInt64 else v
/-- isJust, wholeFits, realFits -/
def isJ (d : UInt64) (w : Int64) : Bool := decide (Op.cmpValue (FP.dcmp d c63) .g < 0) && decide (Op.cmpValue (FP.dcmp (FP.l2d w) d) .l = 0) && decide (lg_cmp (FP.d2l d) w = 0)
def wF (w : Int64) (k : Int32) : Bool := if k = 5 then isJ (FP.f2d (FP.l2f w)) w else if k = 6 then isJ (FP.l2d w) w else decide (lg_cmp (lowB w k) w = 0)
def rF (d : UInt64) (k : Int32) : Bool := if k = 5 then decide (Op.cmpValue (FP.dcmp (FP.f2d (FP.d2f d)) d) .l = 0) else if k = 6 then true else isJ d (FP.d2l d) && wF (FP.d2l d) k
/-- a double with which all goes well: times 8, and to a float and back -/
def GR (d : UInt64) : Prop := vf_n64 (FP.dmul d c8) ∧ vf_n32 (FP.d2f d) ∧ vf_n64 (FP.f2d (FP.d2f d)) ∧ vf_n32 (FP.fmul (FP.d2f d) f8)
def isR (k : Int32) : Bool := decide (k = 5) || decide (k = 6)
/-- how many cells a column has (none: 0) -/
def cnt (M : MM) (p : Nat) : Nat := (M.1 4 p 1).toNatClampNeg
def cOK (M : MM) (p : Nat) : Prop := M.1 4 p 1 = -1 ∨ ∃ n, n ≤ 40 ∧ M.1 4 p 1 = nI n
theorem cnt_le {M : MM} {p : Nat} (h : cOK M p) : cnt M p ≤ 40 := by
  unfold cnt
  rcases h with h | ⟨n, hn, h⟩
  · rw [h]; decide
  · rw [h, nI_clamp (by omega)]; exact hn
theorem lt_cnt {M : MM} {p i : Nat} (h : cOK M p) (hi : i ≤ 40) : (nI i < M.1 4 p 1) = (i < cnt M p) := by
  unfold cnt
  rcases h with h | ⟨n, hn, h⟩
  · rw [h]
    simp only [eq_iff_iff]
    constructor
    · intro h1
      exfalso
      have h2 := nI_pos (n := i) (by omega)
      have h3 := Int32.lt_iff_toInt_lt.mp h1
      rw [Int32.lt_iff_toInt_lt] at h2
      have e1 : (-1 : Int32).toInt = -1 := by decide
      have e2 : (0 : Int32).toInt = 0 := by decide
      omega
    · intro h1
      have e1 : (-1 : Int32).toNatClampNeg = 0 := by decide
      omega
  · rw [h, nI_clamp (by omega)]
    exact propext (nI_ltI (by omega) (by omega))
/-- whether there is such a cell -/
def inC (M : MM) (p : Nat) (i : Int32) : Bool := !decide (i < 0) && decide (i < M.1 4 p 1)
def hC (M : MM) (p : Nat) (a n : Int32) : Bool := !decide (a < 0) && (!decide (n < 0) && !decide (M.1 4 p 1 - a < n))
def forS (k s : Int32) : Bool := decide (k = 7 ∨ k = 8 ∧ s = 1 ∨ k = 9 ∧ s = 2)
theorem vin {i n : Nat} (h : i < n) (hn : n < 2 ^ 31) : vp_in (nI i) n := vp_in_nI h hn
theorem ncl {i : Nat} (h : i ≤ 1000) : (nI i).toNatClampNeg = i := nI_clamp (by omega)
/-- what a cell tells -/
def xT (M : MM) (p i : Nat) : Int64 := if isR (M.1 4 p 0) then FP.d2l (FP.dmul (M.2.2 7 p i) c8) else M.2.1 6 p i
/-- whether a cell fits another kind -/
def xF (M : MM) (p i : Nat) (k : Int32) : Bool := if isR (M.1 4 p 0) then rF (M.2.2 7 p i) k else wF (M.2.1 6 p i) k
/-- the first place below n where f is false, or n -/
def fst0 (f : Nat → Bool) : Nat → Nat
  | 0 => 0
  | n + 1 => if fst0 f n < n then fst0 f n else if f n then n + 1 else n
theorem fst0_le (f : Nat → Bool) : ∀ n, fst0 f n ≤ n
  | 0 => Nat.le_refl 0
  | n + 1 => by
    have := fst0_le f n
    unfold fst0
    split
    · omega
    · split <;> omega
theorem fst0_lt (f : Nat → Bool) : ∀ n j, j < fst0 f n → f j = true
  | 0, j, h => absurd h (Nat.not_lt_zero j)
  | n + 1, j, h => by
    have ih := fst0_lt f n
    have hle := fst0_le f n
    unfold fst0 at h
    split at h
    · exact ih j h
    · split at h
      · rename_i h1 h2
        by_cases e : j = n
        · rw [e]; exact h2
        · exact ih j (by omega)
      · exact ih j (by omega)
theorem fst0_at (f : Nat → Bool) : ∀ n, fst0 f n < n → f (fst0 f n) = false
  | 0, h => absurd h (Nat.not_lt_zero _)
  | n + 1, h => by
    have ih := fst0_at f n
    have hle := fst0_le f n
    unfold fst0 at h ⊢
    split
    · rename_i h1; exact ih h1
    · rename_i h1
      rw [if_neg h1] at h
      split
      · rename_i h2; rw [if_pos h2] at h; omega
      · rename_i h2; simpa using h2
theorem fst0_eq (f : Nat → Bool) {n i : Nat} (hi : i ≤ n) (h1 : ∀ j, j < i → f j = true) (h2 : i = n ∨ f i = false) : fst0 f n = i := by
  have a := fst0_le f n
  rcases Nat.lt_trichotomy (fst0 f n) i with h | h | h
  · have := fst0_at f n (by omega)
    rw [h1 _ h] at this
    cases this
  · exact h
  · rcases h2 with h2 | h2
    · omega
    · rw [fst0_lt f n i h] at h2
      cases h2
/-- what begin, becomeLike, becomeKind make of a column -/
def c_begin (M : MM) (p : Nat) (k n : Int32) : MM := rD (rL (sI (sI M 4 p 0 k) 4 p 1 n) 6 p (fun j => if j < 40 then (if k < 7 then 0 else -1) else M.2.1 6 p j)) 7 p (fun j => if j < 40 then 0 else M.2.2 7 p j)
def c_take (M : MM) (p s a b n : Nat) : MM := rD (rL M 6 p (va_cpy (M.2.1 6 s) (M.2.1 6 p) a b n)) 7 p (va_cpy (M.2.2 7 s) (M.2.2 7 p) a b n)
def c_like (M : MM) (p s : Nat) : MM := c_take (sI (sI M 4 p 0 (M.1 4 s 0)) 4 p 1 (M.1 4 s 1)) p s 0 0 40
def c_set (M : MM) (p i : Nat) (v : Int64) : MM := if M.1 4 p 0 = 5 then sD M 7 p i (FP.f2d (FP.fdiv (FP.l2f v) f8)) else if M.1 4 p 0 = 6 then sD M 7 p i (FP.ddiv (FP.l2d v) c8) else sL M 6 p i (lowB v (M.1 4 p 0))
/-- the cells below n turned -/
def c_turn (M : MM) (p n : Nat) (k : Int32) : MM := if isR (M.1 4 p 0) ∧ ¬ isR k then rL M 6 p (fun j => if j < n then FP.d2l (M.2.2 7 p j) else M.2.1 6 p j) else if ¬ isR (M.1 4 p 0) ∧ isR k then rD M 7 p (fun j => if j < n then FP.l2d (M.2.1 6 p j) else M.2.2 7 p j) else M
/-- whether two cells are alike -/
def xE (M : MM) (p s i : Nat) : Bool := if isR (M.1 4 p 0) then decide (Op.cmpValue (FP.dcmp (M.2.2 7 p i) (M.2.2 7 s i)) .l = 0) else decide (lg_cmp (M.2.1 6 p i) (M.2.1 6 s i) = 0)
def xH (M : MM) (p i : Nat) : Int32 := if (M.2.1 6 p i).toInt32 = -1 then 0 else 1
/-! FP facts -/
theorem fp_put5 (v : Int64) : vf_n32 (FP.fdiv (FP.l2f v) f8) ∧ vf_n64 (FP.f2d (FP.fdiv (FP.l2f v) f8)) := ⟨n32_of (fdiv8_nn v), n64_of (f2d_nn (fdiv8_nn v))⟩
theorem fp_put6 (v : Int64) : vf_n64 (FP.ddiv (FP.l2d v) c8) := n64_of (ddiv8_nn v)
theorem fp_w5 (v : Int64) : vf_n64 (FP.f2d (FP.l2f v)) := n64_of (f2d_nn (l2f_nn v))
theorem GR_of {d : UInt64} (h : FP.Core.val64 d ≠ .nan) : GR d := ⟨n64_of (dmul8_nn h), n32_of (d2f_nn h), n64_of (f2d_nn (d2f_nn h)), n32_of (fmul8_nn (d2f_nn h))⟩
