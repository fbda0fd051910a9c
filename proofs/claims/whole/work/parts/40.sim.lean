/-! ===== the two sides of the world agree ===== -/
def KR (k : Int32) : Prop := k = -1 ∨ ∃ j, j ≤ 9 ∧ k = nI j
def liveR (M N : MM) (p n : Nat) : Prop := ∀ i, i < n → (isR (M.1 4 p 0) = true → N.2.2 13 0 (40 * p + i) = M.2.2 7 p i) ∧ (isR (M.1 4 p 0) = false → N.2.1 12 0 (40 * p + i) = M.2.1 6 p i) ∧ (M.1 4 p 0 = 5 → ∃ a, FP.Core.val32 a ≠ .nan ∧ M.2.2 7 p i = FP.f2d a) ∧ (¬ M.1 4 p 0 < 7 → M.2.1 6 p i = -1 ∨ ∃ j, j < 40 ∧ nI j < M.1 0 0 3 ∧ M.2.1 6 p i = lN j)
def colR (M N : MM) (p : Nat) : Prop := N.1 9 0 p = M.1 4 p 0 ∧ KR (M.1 4 p 0) ∧ ((M.1 4 p 1 = -1 ∧ N.1 10 0 p = 0 ∧ N.1 11 0 p = (if M.1 4 p 0 = -1 then 0 else 1)) ∨ (¬ M.1 4 p 0 = -1 ∧ ∃ n, n ≤ 40 ∧ M.1 4 p 1 = nI n ∧ N.1 10 0 p = nI n ∧ N.1 11 0 p = 0 ∧ liveR M N p n))
def parR (M N : MM) : Prop := M.1 0 0 3 = N.1 8 0 11 ∧ (∃ n, n ≤ 40 ∧ M.1 0 0 3 = nI n) ∧ ∀ j, j < 40 → M.1 5 j 2 = N.1 21 0 j ∧ (nI j < M.1 0 0 3 → M.1 5 j 0 = N.1 19 0 j ∧ M.1 5 j 1 = N.1 20 0 j ∧ M.1 5 j 3 = N.1 22 0 j ∧ (M.1 5 j 0 = 0 ∨ M.1 5 j 0 = 1 ∨ M.1 5 j 0 = 2) ∧ ¬ M.1 5 j 3 < -1) ∧ (¬ nI j < M.1 0 0 3 → M.1 5 j 3 = -1)
def numR (M N : MM) : Prop := (∀ p i, FP.Core.val64 (M.2.2 7 p i) ≠ .nan) ∧ (∀ i, FP.Core.val64 (N.2.2 13 0 i) ≠ .nan) ∧ ∀ i, FP.Core.val64 (N.2.2 18 0 i) ≠ .nan
def RR (M N : MM) : Prop := (∀ p, p < 24 → colR M N p) ∧ parR M N ∧ M.1 0 0 4 = N.1 8 0 16 ∧ numR M N ∧ ∀ p, 24 ≤ p → p < 30 → cOK M p
def eX (M M' : MM) : Prop := M.1 0 = M'.1 0 ∧ M.1 4 = M'.1 4 ∧ M.1 5 = M'.1 5 ∧ M.2.1 6 = M'.2.1 6 ∧ M.2.2 7 = M'.2.2 7
def eN (N N' : MM) : Prop := N.1 8 0 11 = N'.1 8 0 11 ∧ N.1 8 0 16 = N'.1 8 0 16 ∧ N.1 9 = N'.1 9 ∧ N.1 10 = N'.1 10 ∧ N.1 11 = N'.1 11 ∧ N.1 19 = N'.1 19 ∧ N.1 20 = N'.1 20 ∧ N.1 21 = N'.1 21 ∧ N.1 22 = N'.1 22 ∧ N.2.1 12 = N'.2.1 12 ∧ N.2.2 13 = N'.2.2 13 ∧ N.2.2 18 = N'.2.2 18
theorem RR_X {M M' N : MM} (h : eX M M') (r : RR M N) : RR M' N := by
  obtain ⟨h0, h4, h5, h6, h7⟩ := h
  simp only [RR, colR, liveR, parR, numR, cOK, h0, h4, h5, h6, h7] at r ⊢
  exact r
theorem RR_N {M N N' : MM} (h : eN N N') (r : RR M N) : RR M N' := by
  obtain ⟨a1, a2, a3, a4, a5, a6, a7, a8, a9, b1, b2, b3⟩ := h
  simp only [RR, colR, liveR, parR, numR, cOK, a1, a2, a3, a4, a5, a6, a7, a8, a9, b1, b2, b3] at r ⊢
  exact r
theorem colR_cOK {M N : MM} {p : Nat} (h : colR M N p) : cOK M p := by
  rcases h.2.2 with h | ⟨_, n, hn, h, _⟩
  · exact .inl h.1
  · exact .inr ⟨n, hn, h⟩
theorem RR_XOK {M N : MM} (r : RR M N) : XOK M := by
  obtain ⟨r1, r2, r3, r4, r5⟩ := r
  refine ⟨fun p hp => ?_, fun p i => GR_of (r4.1 p i), r2.2.1⟩
  by_cases h : p < 24
  · exact colR_cOK (r1 p h)
  · exact r5 p (by omega) hp
theorem RR_MOK {M N : MM} (r : RR M N) : MOK N := by
  obtain ⟨r1, r2, r3, r4, r5⟩ := r
  refine ⟨fun p hp => ?_, fun i => GR_of (r4.2.1 i), ?_, fun p i hp hi hk => ?_⟩
  · rcases (r1 p hp).2.2 with h | ⟨_, n, hn, _, h, _⟩
    · exact ⟨0, by decide, h.2.1⟩
    · exact ⟨n, hn, h⟩
  · obtain ⟨n, hn, h⟩ := r2.2.1
    exact ⟨n, hn, by rw [← r2.1]; exact h⟩
  · obtain ⟨c1, c2, c3⟩ := r1 p hp
    rw [c1] at hk
    rcases c3 with h | ⟨_, n, hn, h1, h2, h3, h4⟩
    · exfalso
      unfold mcnt at hi
      rw [h.2.1] at hi
      have e0 : Int32.toNatClampNeg 0 = 0 := by decide
      omega
    · have hin : i < n := by
        unfold mcnt at hi
        rw [h2, nI_clamp (by omega)] at hi
        exact hi
      have hR : isR (M.1 4 p 0) = false := by
        unfold isR
        have a1 : ¬ M.1 4 p 0 = 5 := by intro e; rw [e] at hk; exact hk (by decide)
        have a2 : ¬ M.1 4 p 0 = 6 := by intro e; rw [e] at hk; exact hk (by decide)
        simp only [a1, a2, decide_false, Bool.or_self]
      obtain ⟨l1, l2, l3, l4⟩ := h4 i hin
      rw [l2 hR]
      rcases l4 hk with e | ⟨j, hj, _, e⟩
      · rw [e]; exact .inl (by decide)
      · exact .inr ⟨j, hj, e⟩
/-- whether there is no column, on both sides -/
theorem none_eq {M N : MM} {p : Nat} (h : colR M N p) : (mNone N p = true) ↔ M.1 4 p 1 = -1 := by
  obtain ⟨c1, c2, c3⟩ := h
  unfold mNone
  rw [c1]
  rcases c3 with ⟨h1, h2, h3⟩ | ⟨h0, n, hn, h1, h2, h3, h4⟩
  · rw [h3]
    refine iff_of_true ?_ h1
    by_cases e : M.1 4 p 0 = -1
    · simp only [e, decide_true, Bool.true_or]
    · rw [if_neg e]
      exact Bool.or_eq_true_iff.mpr (.inr (by decide))
  · rw [h3, h1]
    refine iff_of_false ?_ (fun e => ?_)
    · simp only [h0, decide_false, decide_true, Bool.not_true, Bool.or_self, Bool.false_eq_true, not_false_eq_true]
    · have := nI_pos (n := n) (by omega)
      rw [e] at this
      exact this (by decide)
theorem pl_lt {p : Int32} (h : ¬ isPl p = false) : cl p < 24 := (isPl_in (by simpa using h)).2
theorem r_kind {M N : MM} (r : RR M N) (p : Int32) : x_kind M p = m_kind N p := by
  unfold x_kind m_kind
  by_cases h : isPl p = false
  · rw [if_pos h, if_pos h]
  · rw [if_neg h, if_neg h, (r.1 (cl p) (pl_lt h)).1]
theorem r_length {M N : MM} (r : RR M N) (p : Int32) : x_length M p = m_length N p := by
  unfold x_length m_length
  by_cases h : isPl p = false
  · rw [if_pos h, if_pos h]
  · have c := r.1 (cl p) (pl_lt h)
    rw [if_neg h, if_neg h]
    by_cases e : M.1 4 (cl p) 1 = -1
    · rw [if_pos e, if_pos ((none_eq c).mpr e)]
    · rw [if_neg e, if_neg (fun e2 => e ((none_eq c).mp e2))]
      rcases c.2.2 with h | ⟨_, n, _, h1, h2, _⟩
      · exact absurd h.1 e
      · rw [h1, h2]
