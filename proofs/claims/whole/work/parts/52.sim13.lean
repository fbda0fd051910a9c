/-! ===== copy ===== -/
theorem RR_cp {M N : MM} (r : RR M N) (v : Int32) : RR (sI M 0 0 4 v) (sI N 8 0 16 v) := by
  obtain ⟨h1, h2, h3⟩ := r.2.1
  refine RR_par r ⟨sI_o (by decide), rfl⟩ ⟨sI_o (by decide), sI_o (by decide), sI_o (by decide), rfl⟩ (fun j hj g => ?_) ⟨?_, ?_, fun j hj => ?_⟩ ?_
  · rw [sI_k' (show 3 ≠ 4 by decide)]; exact g
  · rw [sI_k' (show 3 ≠ 4 by decide), sI_k' (show 11 ≠ 16 by decide)]; exact h1
  · rw [sI_k' (show 3 ≠ 4 by decide)]; exact h2
  · rw [sI_k' (show 3 ≠ 4 by decide), sI_o (show ¬ 5 = 0 by decide), sI_o (show ¬ 21 = 8 by decide), sI_o (show ¬ 19 = 8 by decide), sI_o (show ¬ 20 = 8 by decide), sI_o (show ¬ 22 = 8 by decide)]
    exact h3 j hj
  · rw [sIe, sIe]
/-- the cells that k steps of copying have written -/
def cpW (g b n : Nat) (bk : Bool) (k x : Nat) : Prop := (bk = true ∧ 40 * g + b + (n - k) ≤ x ∧ x < 40 * g + b + n) ∨ (bk = false ∧ 40 * g + b ≤ x ∧ x < 40 * g + b + k)
theorem mcp_L (N : MM) {f a g b n : Nat} (bk : Bool) (ha : a + n ≤ 40) (hb : b + n ≤ 40) (h1 : f = g → (bk = true ↔ a < b)) : ∀ k, k ≤ n → ∀ x, (cpW g b n bk k x → (m_cp N f a g b n bk k).2.1 12 0 x = N.2.1 12 0 (40 * f + a + (x - (40 * g + b))) ∧ (m_cp N f a g b n bk k).2.2 13 0 x = N.2.2 13 0 (40 * f + a + (x - (40 * g + b)))) ∧ (¬ cpW g b n bk k x → (m_cp N f a g b n bk k).2.1 12 0 x = N.2.1 12 0 x ∧ (m_cp N f a g b n bk k).2.2 13 0 x = N.2.2 13 0 x)
  | 0, _, x => ⟨fun h => by
      exfalso
      rcases h with h | h <;> omega, fun _ => ⟨rfl, rfl⟩⟩
  | k + 1, hk, x => by
    have ih := mcp_L N bk ha hb h1 k (by omega)
    have hj : cpJ bk n k < n ∧ (bk = true → cpJ bk n k = n - 1 - k) ∧ (bk = false → cpJ bk n k = k) := by
      unfold cpJ
      cases bk
      · exact ⟨by simp; omega, fun e => absurd e (by decide), fun _ => by simp⟩
      · exact ⟨by simp; omega, fun _ => by simp, fun e => absurd e (by decide)⟩
    have hr : ¬ cpW g b n bk k (40 * f + a + cpJ bk n k) := by
      rintro (⟨e, e1, e2⟩ | ⟨e, e1, e2⟩)
      · have := hj.2.1 e
        by_cases fg : f = g
        · have := (h1 fg).mp e
          omega
        · omega
      · have := hj.2.2 e
        by_cases fg : f = g
        · have h5 : ¬ a < b := fun l => by have := (h1 fg).mpr l; rw [e] at this; exact absurd this (by decide)
          omega
        · omega
    obtain ⟨r1, r2⟩ := (ih (40 * f + a + cpJ bk n k)).2 hr
    simp only [m_cp, sI, sD, sL, true_and, r1, r2]
    by_cases e : x = 40 * g + b + cpJ bk n k
    · rw [if_pos e, if_pos e]
      have e2 : x - (40 * g + b) = cpJ bk n k := by omega
      refine ⟨fun _ => by rw [e2]; exact ⟨rfl, rfl⟩, fun h => ?_⟩
      exfalso
      apply h
      cases hbk : bk
      · have := hj.2.2 hbk
        exact .inr ⟨rfl, by omega, by omega⟩
      · have := hj.2.1 hbk
        exact .inl ⟨rfl, by omega, by omega⟩
    · rw [if_neg e, if_neg e]
      have iff : cpW g b n bk (k + 1) x ↔ cpW g b n bk k x := by
        unfold cpW
        cases hbk : bk
        · have := hj.2.2 hbk
          simp only [Bool.false_eq_true, false_and, false_or, true_and]
          omega
        · have := hj.2.1 hbk
          simp only [Bool.true_eq_false, false_and, or_false, true_and]
          omega
      rw [iff]
      exact ih x
