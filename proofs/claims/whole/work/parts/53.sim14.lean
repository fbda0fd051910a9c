theorem rea_eq {M : MM} {p m : Nat} {a n : Int32} (hm : m ≤ 40) (g1 : M.1 4 p 1 = nI m) : (hC M p a n = false) ↔ (n < 0 ∨ mRea a n (nI m) = false) := by
  unfold hC mRea
  rw [g1]
  by_cases h1 : a < 0
  · simp only [h1, decide_true, Bool.not_true, Bool.false_and, or_true]
  · by_cases h2 : n < 0
    · simp only [h2, decide_true, Bool.not_true, Bool.false_and, Bool.and_false, true_or]
    · by_cases h3 : nI m < a
      · obtain ⟨a', ha, rfl⟩ := nI_of h1
        obtain ⟨n', hn, rfl⟩ := nI_of h2
        have h4 : nI m - nI a' < nI n' := by
          rw [Int32.lt_iff_toInt_lt, Int32.toInt_sub, nI_toInt (by omega), nI_toInt ha, nI_toInt hn, Int.bmod_eq_of_le (by omega) (by omega)]
          have := (nI_ltI (by omega) ha).mp h3
          omega
        simp only [h1, h2, h3, h4, decide_true, decide_false, Bool.not_true, Bool.not_false, Bool.false_and, Bool.and_false, or_true, Bool.and_self]
      · simp only [h1, h2, h3, decide_false, Bool.not_false, Bool.true_and, false_or]
