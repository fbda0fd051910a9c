/-! ===== the parts ===== -/
theorem RR_par {M N M' N' : MM} (r : RR M N) (x : M'.1 4 = M.1 4 ∧ M'.2 = M.2) (m : N'.1 9 = N.1 9 ∧ N'.1 10 = N.1 10 ∧ N'.1 11 = N.1 11 ∧ N'.2 = N.2) (g : ∀ j, j < 40 → nI j < M.1 0 0 3 → nI j < M'.1 0 0 3) (par : parR M' N') (cp : M'.1 0 0 4 = N'.1 8 0 16) : RR M' N' := by
  obtain ⟨r1, r2, r3, r4, r5⟩ := r
  obtain ⟨x4, x2⟩ := x
  obtain ⟨m9, m10, m11, m2⟩ := m
  refine ⟨fun q hq => ?_, par, cp, ?_, fun q h1 h2 => ?_⟩
  · have h := r1 q hq
    unfold colR at h ⊢
    rw [x4, m9, m10, m11]
    refine ⟨h.1, h.2.1, ?_⟩
    rcases h.2.2 with h | ⟨h0, k, hk, g1, g2, g3, g4⟩
    · exact .inl h
    · refine .inr ⟨h0, k, hk, g1, g2, g3, fun i hi => ?_⟩
      have e := g4 i hi
      rw [x4, x2, m2]
      refine ⟨e.1, e.2.1, e.2.2.1, fun hs => ?_⟩
      rcases e.2.2.2 hs with e | ⟨j, j1, j2, j3⟩
      · exact .inl e
      · exact .inr ⟨j, j1, g j j1 j2, j3⟩
  · unfold numR at r4 ⊢
    rw [x2, m2]; exact r4
  · have h := r5 q h1 h2
    unfold cOK at h ⊢
    rw [x4]; exact h
theorem sI_k' {M : MM} {t i k t' i' k' : Nat} {v : Int32} (h : k' ≠ k) : (sI M t i k v).1 t' i' k' = M.1 t' i' k' := by
  simp only [sI, h, and_false, if_false]
theorem nI_s1 (m : Nat) : nI m + 1 = nI (m + 1) := by
  rw [show (1 : Int32) = nI 1 from rfl, nI_add]
theorem nI_p1 (m : Nat) : nI (m + 1) - 1 = nI m := by
  rw [← nI_s1, Int32.add_sub_cancel]
theorem pt_in {M N : MM} (h : parR M N) (j : Int32) : isPt M j = inR j 0 (N.1 8 0 11 - 1) := by
  obtain ⟨h1, ⟨n, hn, h2⟩, _⟩ := h
  unfold isPt inR
  rw [← h1, h2]
  by_cases h0 : j < 0
  · simp only [h0, decide_true, Bool.not_true, Bool.false_and]
  · obtain ⟨a, ha, rfl⟩ := nI_of h0
    congr 1
    cases n with
    | zero =>
      have e1 : ¬ nI a < nI 0 := fun e => absurd ((nI_ltI (by omega) (by omega)).mp e) (by omega)
      have e2 : nI 0 - 1 < nI a := by
        rw [show nI 0 - 1 = -1 from rfl, Int32.lt_iff_toInt_lt, nI_toInt ha, show (-1 : Int32).toInt = -1 from rfl]
        omega
      simp only [e1, e2, decide_true, decide_false, Bool.not_true]
    | succ m =>
      rw [nI_p1]
      have e : (nI a < nI (m + 1)) ↔ ¬ (nI m < nI a) := by
        rw [nI_ltI (by omega) (by omega), nI_ltI (by omega) (by omega)]
        omega
      by_cases e2 : nI m < nI a
      · have e1 : ¬ nI a < nI (m + 1) := fun g => e.mp g e2
        simp only [e1, e2, decide_true, decide_false, Bool.not_true]
      · have e1 := e.mpr e2
        simp only [e1, e2, decide_true, decide_false, Bool.not_false]
theorem r_part {M N : MM} (r : RR M N) (z w : Int32) : (x_part M z w).1 = (m_part N z w).1 ∧ RR (x_part M z w).2 (m_part N z w).2 := by
  have pr := r.2.1
  obtain ⟨h1, ⟨n, hn, h2⟩, h3⟩ := pr
  unfold x_part m_part
  simp only [inR_f, or_assoc]
  by_cases h : z < 0 ∨ 2 < z ∨ w < 0 ∨ 1000 < w
  · rw [if_pos h, if_pos h]; exact ⟨rfl, r⟩
  · rw [if_neg h, if_neg h, ← h1, h2]
    by_cases e : n = 40
    · subst e
      have d1 : ¬ nI 40 < 40 := by decide
      have d2 : nI 40 = 40 := by decide
      rw [if_pos d1, if_pos d2]; exact ⟨rfl, r⟩
    · have d1 : ¬ ¬ nI n < 40 := fun g => g (show nI n < nI 40 from (nI_ltI (by omega) (by omega)).mpr (by omega))
      have d2 : ¬ nI n = 40 := fun g => e (nI_inj' (by omega) (by omega) g)
      have hc : cl (nI n) = n := nI_clamp (by omega)
      rw [if_neg d1, if_neg d2, hc]
      refine ⟨by rw [Int32.add_sub_cancel], ?_⟩
      rw [nI_s1]
      refine RR_par r ⟨?_, rfl⟩ ⟨?_, ?_, ?_, rfl⟩ (fun j hj g => ?_) ⟨?_, ⟨n + 1, by omega, ?_⟩, fun j hj => ⟨?_, fun g => ?_, fun g => ?_⟩⟩ ?_
      · rw [sI_o (by decide), sI_o (by decide), sI_o (by decide)]
      · rw [sI_o (by decide), sI_o (by decide), sI_o (by decide), sI_o (by decide)]
      · rw [sI_o (by decide), sI_o (by decide), sI_o (by decide), sI_o (by decide)]
      · rw [sI_o (by decide), sI_o (by decide), sI_o (by decide), sI_o (by decide)]
      · rw [h2] at g
        rw [sIe]
        have := (nI_ltI (by omega) (by omega)).mp g
        exact (nI_ltI (by omega) (by omega)).mpr (by omega)
      · rw [sIe, sIe]
      · rw [sIe]
      · rw [sI_o (by decide), sI_k' (show 2 ≠ 1 by decide), sI_k' (show 2 ≠ 0 by decide)]
        show _ = (sI (sI (sI (sI N 19 0 n z) 20 0 n w) 22 0 n (-1)) 8 0 11 (nI (n + 1))).1 21 0 j
        rw [sI_o (by decide), sI_o (by decide), sI_o (by decide), sI_o (by decide)]
        exact (h3 j hj).1
      · rw [sIe] at g
        have g' := (nI_ltI (by omega) (by omega)).mp g
        by_cases e2 : j = n
        · subst e2
          have f := (h3 j hj).2.2 (by rw [h2]; exact fun g => absurd ((nI_ltI (by omega) (by omega)).mp g) (by omega))
          refine ⟨?_, ?_, ?_, ?_, ?_⟩
          · rw [sI_o (by decide), sI_k (by decide), sIe, sI_o (by decide), sI_o (by decide), sI_o (by decide), sIe]
          · rw [sI_o (by decide), sIe, sI_o (by decide), sI_o (by decide), sIe]
          · rw [sI_o (by decide), sI_k (by decide), sI_k (by decide), sI_o (by decide), sIe]; exact f
          · rw [sI_o (by decide), sI_k (by decide), sIe]
            obtain ⟨a, ha, rfl⟩ := nI_of2 (M := 2) (n := 2) (by decide) (fun g => h (.inl g)) (Int32.not_lt.mp fun g => h (.inr (.inl g)))
            match a, ha with
            | 0, _ => exact .inl rfl
            | 1, _ => exact .inr (.inl rfl)
            | 2, _ => exact .inr (.inr rfl)
          · rw [sI_o (by decide), sI_k (by decide), sI_k (by decide), f]; decide
        · have f := (h3 j hj).2.1 (by rw [h2]; exact (nI_ltI (by omega) (by omega)).mpr (by omega))
          rw [sI_o (show ¬ 5 = 0 by decide), sI_q e2, sI_q e2, sI_o (show ¬ 19 = 8 by decide), sI_o (show ¬ 19 = 22 by decide), sI_o (show ¬ 19 = 20 by decide), sI_k e2, sI_o (show ¬ 20 = 8 by decide), sI_o (show ¬ 20 = 22 by decide), sI_k e2, sI_o (show ¬ 20 = 19 by decide), sI_o (show ¬ 22 = 8 by decide), sI_k e2, sI_o (show ¬ 22 = 20 by decide), sI_o (show ¬ 22 = 19 by decide)]
          exact f
      · rw [sIe] at g
        have g' : ¬ j < n + 1 := fun e => g ((nI_ltI (by omega) (by omega)).mpr e)
        rw [sI_o (by decide), sI_k' (show 3 ≠ 1 by decide), sI_k' (show 3 ≠ 0 by decide)]
        exact (h3 j hj).2.2 (by rw [h2]; exact fun g => absurd ((nI_ltI (by omega) (by omega)).mp g) (by omega))
      · rw [sI_k (by decide), sI_o (by decide), sI_o (by decide), sI_k (by decide), sI_o (by decide), sI_o (by decide), sI_o (by decide)]
        exact r.2.2.1
