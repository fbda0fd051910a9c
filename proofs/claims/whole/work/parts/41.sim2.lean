/-! ===== moves that change one column, or the parts ===== -/
theorem RR_at {M N M' N' : MM} (r : RR M N) (p : Nat) (hp : p < 24)
    (x : M'.1 0 = M.1 0 ∧ M'.1 5 = M.1 5 ∧ ∀ q, q ≠ p → M'.1 4 q = M.1 4 q ∧ M'.2.1 6 q = M.2.1 6 q ∧ M'.2.2 7 q = M.2.2 7 q)
    (n : N'.1 8 0 11 = N.1 8 0 11 ∧ N'.1 8 0 16 = N.1 8 0 16 ∧ N'.1 19 = N.1 19 ∧ N'.1 20 = N.1 20 ∧ N'.1 21 = N.1 21 ∧ N'.1 22 = N.1 22)
    (m : ∀ q, q ≠ p → N'.1 9 0 q = N.1 9 0 q ∧ N'.1 10 0 q = N.1 10 0 q ∧ N'.1 11 0 q = N.1 11 0 q ∧ ∀ i, i < 40 → N'.2.1 12 0 (40 * q + i) = N.2.1 12 0 (40 * q + i) ∧ N'.2.2 13 0 (40 * q + i) = N.2.2 13 0 (40 * q + i))
    (num : numR M' N') (c : colR M' N' p) : RR M' N' := by
  obtain ⟨r1, r2, r3, r4, r5⟩ := r
  obtain ⟨x0, x5, x4⟩ := x
  obtain ⟨n1, n2, n3, n4, n5, n6⟩ := n
  refine ⟨fun q hq => ?_, ?_, ?_, num, fun q h1 h2 => ?_⟩
  · by_cases e : q = p
    · rw [e]; exact c
    · obtain ⟨a1, a2, a3⟩ := x4 q e
      obtain ⟨b1, b2, b3, b4⟩ := m q e
      have h := r1 q hq
      unfold colR at h ⊢
      rw [a1, b1, b2, b3]
      refine ⟨h.1, h.2.1, ?_⟩
      rcases h.2.2 with h | ⟨h0, k, hk, g1, g2, g3, g4⟩
      · exact .inl h
      · refine .inr ⟨h0, k, hk, g1, g2, g3, fun i hi => ?_⟩
        have g := g4 i hi
        obtain ⟨d1, d2⟩ := b4 i (by omega)
        rw [a1, a2, a3, d1, d2, x0]
        exact g
  · unfold parR at r2 ⊢
    rw [x0, x5, n1, n3, n4, n5, n6]
    exact r2
  · rw [x0, n2]; exact r3
  · have h := r5 q h1 h2
    unfold cOK at h ⊢
    rw [(x4 q (by omega)).1]
    exact h
theorem sIe (M : MM) (t i k : Nat) (v : Int32) : (sI M t i k v).1 t i k = v := by simp only [sI, and_self, if_true]
theorem sI_q {M : MM} {t i i' k : Nat} {v : Int32} (h : i' ≠ i) : (sI M t i k v).1 t i' = M.1 t i' := by
  funext k'
  simp only [sI, h, false_and, and_false, if_false]
theorem sI_k {M : MM} {t i k k' : Nat} {v : Int32} (h : k' ≠ k) : (sI M t i k v).1 t i k' = M.1 t i k' := by
  simp only [sI, h, and_false, if_false]
theorem num_XN {M N M' N' : MM} (h : numR M N) (x : M'.2.2 7 = M.2.2 7) (n : N'.2.2 13 = N.2.2 13) (n8 : N'.2.2 18 = N.2.2 18) : numR M' N' := by
  unfold numR at h ⊢
  rw [x, n, n8]
  exact h
theorem r_let {M N : MM} (r : RR M N) (p : Int32) : (x_let M p).1 = (m_let N p).1 ∧ RR (x_let M p).2 (m_let N p).2 := by
  unfold x_let m_let
  by_cases h : isPl p = false
  · rw [if_pos h, if_pos h]; exact ⟨rfl, r⟩
  · have hp := pl_lt h
    have c := r.1 (cl p) hp
    rw [if_neg h, if_neg h]
    by_cases e : M.1 4 (cl p) 1 = -1
    · rw [if_pos e, if_pos ((none_eq c).mpr e)]; exact ⟨rfl, r⟩
    · rw [if_neg e, if_neg (fun e2 => e ((none_eq c).mp e2))]
      rcases c.2.2 with h | ⟨h0, n, hn, h1, h2, h3, h4⟩
      · exact absurd h.1 e
      · refine ⟨by rw [h1, h2], RR_at r (cl p) hp ⟨sI_o (by decide), sI_o (by decide), fun q hq => ⟨sI_q hq, rfl, rfl⟩⟩ ?_ (fun q hq => ?_) (num_XN r.2.2.2.1 rfl rfl rfl) ?_⟩
        · simp only [sI_o (show ¬ 8 = 11 by decide), sI_o (show ¬ 8 = 10 by decide), sI_o (show ¬ 19 = 11 by decide), sI_o (show ¬ 19 = 10 by decide), sI_o (show ¬ 20 = 11 by decide), sI_o (show ¬ 20 = 10 by decide), sI_o (show ¬ 21 = 11 by decide), sI_o (show ¬ 21 = 10 by decide), sI_o (show ¬ 22 = 11 by decide), sI_o (show ¬ 22 = 10 by decide), and_self]
        · simp only [sI, hq, and_false, false_and, if_false, implies_true, and_self, show ¬ 9 = 11 by decide, show ¬ 9 = 10 by decide, show ¬ 10 = 11 by decide, show ¬ 11 = 10 by decide]
        · unfold colR
          rw [sI_o (show ¬ 9 = 11 by decide), sI_o (show ¬ 9 = 10 by decide), sI_k (show 0 ≠ 1 by decide)]
          refine ⟨c.1, c.2.1, .inl ⟨sIe _ _ _ _ _, ?_, ?_⟩⟩
          · rw [sI_o (show ¬ 10 = 11 by decide), sIe]
          · rw [sIe, if_neg h0]
theorem r_drop {M N : MM} (r : RR M N) (p : Int32) : (x_drop M p).1 = (m_drop N p).1 ∧ RR (x_drop M p).2 (m_drop N p).2 := by
  unfold x_drop m_drop
  by_cases h : isPl p = false
  · rw [if_pos h, if_pos h]; exact ⟨rfl, r⟩
  · have hp := pl_lt h
    have c := r.1 (cl p) hp
    rw [if_neg h, if_neg h, c.1]
    have key : ∀ M' : MM, M'.1 0 = M.1 0 → M'.1 5 = M.1 5 → (∀ q, q ≠ cl p → M'.1 4 q = M.1 4 q) → M'.2 = M.2 → M'.1 4 (cl p) 0 = -1 → M'.1 4 (cl p) 1 = -1 → RR M' (sI (sI (sI N 9 0 (cl p) (-1)) 10 0 (cl p) 0) 11 0 (cl p) 0) := by
      intro M' y0 y5 y4 y2 k0 k1
      refine RR_at r (cl p) hp ⟨y0, y5, fun q hq => ⟨y4 q hq, by rw [y2], by rw [y2]⟩⟩ ?_ (fun q hq => ?_) (num_XN r.2.2.2.1 (by rw [y2]) rfl rfl) ?_
      · simp only [sI_o (show ¬ 8 = 9 by decide), sI_o (show ¬ 19 = 9 by decide), sI_o (show ¬ 20 = 9 by decide), sI_o (show ¬ 21 = 9 by decide), sI_o (show ¬ 22 = 9 by decide), sI_o (show ¬ 8 = 11 by decide), sI_o (show ¬ 8 = 10 by decide), sI_o (show ¬ 19 = 11 by decide), sI_o (show ¬ 19 = 10 by decide), sI_o (show ¬ 20 = 11 by decide), sI_o (show ¬ 20 = 10 by decide), sI_o (show ¬ 21 = 11 by decide), sI_o (show ¬ 21 = 10 by decide), sI_o (show ¬ 22 = 11 by decide), sI_o (show ¬ 22 = 10 by decide), and_self]
      · simp only [sI, hq, and_false, false_and, if_false, implies_true, and_self, show ¬ 9 = 11 by decide, show ¬ 9 = 10 by decide, show ¬ 10 = 11 by decide, show ¬ 11 = 10 by decide, show ¬ 10 = 9 by decide, show ¬ 11 = 9 by decide]
      · unfold colR
        rw [k0, k1, sI_o (show ¬ 9 = 11 by decide), sI_o (show ¬ 9 = 10 by decide), sIe, sI_o (show ¬ 10 = 11 by decide), sIe, sIe]
        exact ⟨rfl, .inl rfl, .inl ⟨rfl, rfl, rfl⟩⟩
    by_cases e : M.1 4 (cl p) 0 = -1
    · rw [if_pos e, if_pos e]
      refine ⟨rfl, key M rfl rfl (fun _ _ => rfl) rfl e ?_⟩
      rcases c.2.2 with h | ⟨h0, _⟩
      · exact h.1
      · exact absurd e h0
    · rw [if_neg e, if_neg e]
      refine ⟨rfl, key _ (by rw [sI_o (by decide), sI_o (by decide)]) (by rw [sI_o (by decide), sI_o (by decide)]) (fun q hq => by rw [sI_q hq, sI_q hq]) rfl ?_ (sIe _ _ _ _ _)⟩
      rw [sI_k (by decide), sIe]
