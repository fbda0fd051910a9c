theorem mcp_n (N : MM) (f a g b n : Nat) (bk : Bool) : ∀ k, (m_cp N f a g b n bk k).1 8 0 16 = N.1 8 0 16 + nI k ∧ (m_cp N f a g b n bk k).1 8 0 11 = N.1 8 0 11
  | 0 => ⟨by rw [show nI 0 = 0 from rfl, Int32.add_zero]; rfl, rfl⟩
  | k + 1 => by
    obtain ⟨h1, h2⟩ := mcp_n N f a g b n bk k
    refine ⟨?_, ?_⟩
    · show (m_cp N f a g b n bk k).1 8 0 16 + 1 = _
      rw [h1, Int32.add_assoc, nI_s1]
    · show (sI _ 8 0 16 _).1 8 0 11 = _
      rw [sI_k (by decide)]
      exact h2
theorem mcp_18 (N : MM) (f a g b n : Nat) (bk : Bool) : ∀ k, (m_cp N f a g b n bk k).2.2 18 = N.2.2 18
  | 0 => rfl
  | k + 1 => by
    have ih := mcp_18 N f a g b n bk k
    rw [← ih]
    funext i j
    simp only [m_cp, sI, sD, sL, show ¬ 18 = 13 by decide, false_and, if_false]
