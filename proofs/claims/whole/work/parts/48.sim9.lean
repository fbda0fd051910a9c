/-! ===== told ===== -/
theorem bx_zero {f : Nat → Int32} : ∀ n, (∀ i, i < n → f i = 0) → bx_sum f n = 0
  | 0, _ => rfl
  | n + 1, h => by
    have ih := bx_zero n (fun i hi => h i (by omega))
    simp only [bx_sum]
    rw [ih, h n (by omega)]
    rfl
theorem cells_eq {M N : MM} {p : Nat} (c : colR M N p) : (if M.1 4 p 1 = -1 then 0 else M.1 4 p 1) = N.1 10 0 p := by
  rcases c.2.2 with ⟨g1, g2, _⟩ | ⟨h0, m, hm, g1, g2, g3, g4⟩
  · rw [if_pos g1, g2]
  · have d : ¬ nI m = -1 := nI_n1 (by omega)
    rw [g1, if_neg d, g2]
theorem held_eq {M N : MM} {p : Nat} (c : colR M N p) : (if M.1 4 p 0 < 7 then 0 else bx_sum (xH M p) (cnt M p)) = bx_sum (mHI N p) (mcnt N p) := by
  by_cases k : M.1 4 p 0 < 7
  · rw [if_pos k]
    refine (bx_zero _ fun i _ => ?_).symm
    unfold mHI
    rw [c.1, if_neg (fun g => g.1 k)]
  · rw [if_neg k]
    rcases c.2.2 with ⟨g1, g2, _⟩ | ⟨h0, m, hm, g1, g2, g3, g4⟩
    · have c1 : cnt M p = 0 := by unfold cnt; rw [g1]; decide
      have c2 : mcnt N p = 0 := by unfold mcnt; rw [g2]; decide
      rw [c1, c2]; rfl
    · have c1 : cnt M p = m := by unfold cnt; rw [g1]; exact nI_clamp (by omega)
      have c2 : mcnt N p = m := by unfold mcnt; rw [g2]; exact nI_clamp (by omega)
      rw [c1, c2]
      refine bx_congr m fun i hi => ?_
      obtain ⟨l1, l2, l3, l4⟩ := g4 i hi
      have hR : isR (M.1 4 p 0) = false := by
        unfold isR
        have a1 : ¬ M.1 4 p 0 = 5 := by intro e; rw [e] at k; exact k (by decide)
        have a2 : ¬ M.1 4 p 0 = 6 := by intro e; rw [e] at k; exact k (by decide)
        simp only [a1, a2, decide_false, Bool.or_self]
      unfold xH mHI
      rw [c.1, l2 hR]
      rcases l4 k with e | ⟨a, a1, a2, a3⟩
      · have d : (-1 : Int64).toInt32 = -1 := by decide
        have d2 : lg_cmp (-1) 0 < 0 := by decide
        rw [e, if_pos d, if_neg (fun g => g.2 d2)]
      · have d : ¬ lg_cmp (lN a) 0 < 0 := by
          rw [← nI_64 a1, long_lt0]; exact nI_pos (by omega)
        have e3 : (lN a).toInt32 = nI a := by rw [← nI_64 a1, Int32.toInt32_toInt64]
        have d2 : ¬ nI a = -1 := nI_n1 (by omega)
        rw [a3, e3, if_neg d2, if_pos ⟨k, d⟩]
theorem r_told {M N : MM} (r : RR M N) (w : Int32) : x_told M w = m_told N w := by
  unfold x_told m_told
  by_cases h : inR w 0 3 = false
  · rw [if_pos h]
    have d0 : ¬ w = 0 := by intro e; subst e; exact absurd h (by decide)
    have d1 : ¬ w = 1 := by intro e; subst e; exact absurd h (by decide)
    have d2 : ¬ w = 2 := by intro e; subst e; exact absurd h (by decide)
    have d3 : ¬ w = 3 := by intro e; subst e; exact absurd h (by decide)
    rw [if_neg d0, if_neg d1, if_neg d2, if_neg d3]
  · rw [if_neg h]
    by_cases d0 : w = 0
    · rw [if_pos d0, if_pos d0]
      exact bx_congr 24 fun p hp => by rw [(r.1 p hp).1]
    · rw [if_neg d0, if_neg d0]
      by_cases d1 : w = 1
      · rw [if_pos d1, if_pos d1]
        exact bx_congr 24 fun p hp => cells_eq (r.1 p hp)
      · rw [if_neg d1, if_neg d1]
        by_cases d2 : w = 2
        · rw [if_pos d2, if_pos d2]; exact r.2.1.1
        · rw [if_neg d2, if_neg d2]
          have d3 : w = 3 := by
            rw [inR_f] at h
            obtain ⟨a, ha, rfl⟩ := nI_of2 (M := 3) (n := 3) (by decide) (fun g => h (.inl g)) (Int32.not_lt.mp fun g => h (.inr g))
            match a, ha with
            | 0, _ => exact absurd rfl d0
            | 1, _ => exact absurd rfl d1
            | 2, _ => exact absurd rfl d2
            | 3, _ => rfl
          rw [if_pos d3]
          exact bx_congr 24 fun p hp => held_eq (r.1 p hp)
