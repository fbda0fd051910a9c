/-! ===== copy ===== -/
theorem RR_cp {M N : MM} (r : RR M N) (v : Int32) : RR (sI M 0 0 4 v) (sI N 8 0 16 v) := by
  obtain ⟨h1, h2, h3⟩ := r.2.1
  refine RR_par r ⟨sI_o (by decide), rfl⟩ ⟨sI_o (by decide), sI_o (by decide), sI_o (by decide), rfl⟩ (fun j hj g => ?_) ⟨?_, ?_, fun j hj => ?_⟩ ?_
  · rw [sI_k' (show 3 ≠ 4 by decide)]; exact g
  · rw [sI_k' (show 3 ≠ 4 by decide), sI_k' (show 11 ≠ 16 by decide)]; exact h1
  · rw [sI_k' (show 3 ≠ 4 by decide)]; exact h2
  · rw [sI_k' (show 3 ≠ 4 by decide), sI_o (show ¬ 5 = 0 by decide), sI_o (show ¬ 21 = 8 by decide), sI_o (show ¬ 19 = 8 by decide), sI_o (show ¬ 20 = 8 by decide), sI_o (show ¬ 22 = 8 by decide)]
    exact h3 j hj
  · rw [sIe, sIe]
