/-! ===== make, put ===== -/
theorem inR_f {v lo hi : Int32} : (inR v lo hi = false) ↔ (v < lo ∨ hi < v) := by
  unfold inR
  by_cases h1 : v < lo
  · simp only [h1, decide_true, Bool.not_true, Bool.false_and, true_or]
  · by_cases h2 : hi < v
    · simp only [h1, h2, decide_true, decide_false, Bool.not_true, Bool.not_false, Bool.and_false, or_true]
    · simp only [h1, h2, decide_false, Bool.not_false, Bool.and_self, Bool.true_eq_false, or_self]
theorem nn_0 : FP.Core.val64 0 ≠ .nan := by decide +kernel
theorem fv_0 : FP.Core.val32 0 ≠ .nan ∧ (0 : UInt64) = FP.f2d 0 := by decide +kernel
theorem nI_n1 {n : Nat} (h : n ≤ 1000) : ¬ nI n = -1 := by
  intro e
  have := nI_pos (n := n) (by omega)
  rw [e] at this
  exact this (by decide)
theorem r_make {M N : MM} (r : RR M N) (p k n : Int32) : (x_make M p k n).1 = (m_make N p k n).1 ∧ RR (x_make M p k n).2 (m_make N p k n).2 := by
  unfold x_make m_make
  simp only [inR_f, or_assoc]
  by_cases h : isPl p = false ∨ k < 0 ∨ 9 < k ∨ 40 < n
  · rw [if_pos h, if_pos h]
    exact ⟨rfl, r⟩
  · rw [if_neg h, if_neg h]
    by_cases h2 : n < 0
    · rw [if_pos h2, if_pos h2]; exact ⟨rfl, r⟩
    · rw [if_neg h2, if_neg h2]
      have hp := pl_lt (fun g => h (.inl g))
      obtain ⟨m, hm, rfl⟩ := nI_of2 (M := 40) (n := 40) (by decide) h2 (Int32.not_lt.mp fun g => h (.inr (.inr (.inr g))))
      obtain ⟨j, hj, rfl⟩ := nI_of2 (M := 9) (n := 9) (by decide) (fun g => h (.inr (.inl g))) (Int32.not_lt.mp fun g => h (.inr (.inr (.inl g))))
      have hcl : cl (nI m) = m := nI_clamp (by omega)
      rw [hcl]
      refine ⟨rfl, RR_at r (cl p) hp ⟨?_, ?_, fun q hq => ⟨?_, ?_, ?_⟩⟩ ?_ (fun q hq => ?_) ⟨fun q i => ?_, fun i => ?_, r.2.2.2.1.2.2⟩ ?_⟩
      · show (sI (sI M 4 (cl p) 0 (nI j)) 4 (cl p) 1 (nI m)).1 0 = _
        rw [sI_o (by decide), sI_o (by decide)]
      · show (sI (sI M 4 (cl p) 0 (nI j)) 4 (cl p) 1 (nI m)).1 5 = _
        rw [sI_o (by decide), sI_o (by decide)]
      · show (sI (sI M 4 (cl p) 0 (nI j)) 4 (cl p) 1 (nI m)).1 4 q = _
        rw [sI_q hq, sI_q hq]
      · simp only [c_begin, rL, rD, sI, hq, and_false, if_false]
      · simp only [c_begin, rL, rD, sI, hq, and_false, if_false]
      · simp only [mkF, rL, rD, sI_o (show ¬ 8 = 9 by decide), sI_o (show ¬ 19 = 9 by decide), sI_o (show ¬ 20 = 9 by decide), sI_o (show ¬ 21 = 9 by decide), sI_o (show ¬ 22 = 9 by decide), sI_o (show ¬ 8 = 11 by decide), sI_o (show ¬ 8 = 10 by decide), sI_o (show ¬ 19 = 11 by decide), sI_o (show ¬ 19 = 10 by decide), sI_o (show ¬ 20 = 11 by decide), sI_o (show ¬ 20 = 10 by decide), sI_o (show ¬ 21 = 11 by decide), sI_o (show ¬ 21 = 10 by decide), sI_o (show ¬ 22 = 11 by decide), sI_o (show ¬ 22 = 10 by decide), and_self]
      · have z : ∀ i, i < 40 → ¬ (40 * cl p ≤ 40 * q + i ∧ 40 * q + i < 40 * cl p + m) := by intro i hi; omega
        refine ⟨?_, ?_, ?_, fun i hi => ⟨?_, ?_⟩⟩
        · simp only [mkF, rL, rD, sI, hq, and_false, false_and, if_false, show ¬ 9 = 11 by decide, show ¬ 9 = 10 by decide]
        · simp only [mkF, rL, rD, sI, hq, and_false, false_and, if_false, show ¬ 10 = 11 by decide, show ¬ 10 = 9 by decide]
        · simp only [mkF, rL, rD, sI, hq, and_false, false_and, if_false, show ¬ 11 = 9 by decide, show ¬ 11 = 10 by decide]
        · simp only [mkF, rL, rD, sI, and_self, if_true, z i hi, if_false]
        · simp only [mkF, rL, rD, sI, and_self, if_true, z i hi, if_false]
      · simp only [c_begin, rL, rD, sI, true_and]
        by_cases g : q = cl p
        · rw [if_pos g]
          by_cases g2 : i < 40
          · rw [if_pos g2]; exact nn_0
          · rw [if_neg g2]; exact r.2.2.2.1.1 _ _
        · rw [if_neg g]; exact r.2.2.2.1.1 _ _
      · simp only [mkF, rL, rD, sI, and_self, if_true]
        by_cases g2 : 40 * cl p ≤ i ∧ i < 40 * cl p + m
        · rw [if_pos g2]; exact nn_0
        · rw [if_neg g2]; exact r.2.2.2.1.2.1 _
      · have k0 : (c_begin M (cl p) (nI j) (nI m)).1 4 (cl p) 0 = nI j := by
          show (sI (sI M 4 (cl p) 0 (nI j)) 4 (cl p) 1 (nI m)).1 4 (cl p) 0 = _
          rw [sI_k (by decide), sIe]
        have k1 : (c_begin M (cl p) (nI j) (nI m)).1 4 (cl p) 1 = nI m := by
          show (sI (sI M 4 (cl p) 0 (nI j)) 4 (cl p) 1 (nI m)).1 4 (cl p) 1 = _
          rw [sIe]
        have w6 : ∀ i, i < m → (c_begin M (cl p) (nI j) (nI m)).2.1 6 (cl p) i = (if nI j < 7 then 0 else -1) := by
          intro i hi
          simp only [c_begin, rL, rD, sI, and_self, if_true, show i < 40 by omega]
        have w7 : ∀ i, i < m → (c_begin M (cl p) (nI j) (nI m)).2.2 7 (cl p) i = 0 := by
          intro i hi
          simp only [c_begin, rL, rD, sI, and_self, if_true, show i < 40 by omega]
        have z : ∀ i, i < m → (40 * cl p ≤ 40 * cl p + i ∧ 40 * cl p + i < 40 * cl p + m) := by intro i hi; omega
        refine ⟨?_, ?_, .inr ⟨?_, m, hm, k1, ?_, ?_, fun i hi => ⟨fun _ => ?_, fun _ => ?_, fun _ => ?_, fun g => ?_⟩⟩⟩
        · rw [k0]
          show (sI (sI (sI N 9 0 (cl p) (nI j)) 10 0 (cl p) (nI m)) 11 0 (cl p) 0).1 9 0 (cl p) = _
          rw [sI_o (by decide), sI_o (by decide), sIe]
        · rw [k0]; exact .inr ⟨j, hj, rfl⟩
        · rw [k0]; exact nI_n1 (by omega)
        · show (sI (sI (sI N 9 0 (cl p) (nI j)) 10 0 (cl p) (nI m)) 11 0 (cl p) 0).1 10 0 (cl p) = _
          rw [sI_o (by decide), sIe]
        · show (sI (sI (sI N 9 0 (cl p) (nI j)) 10 0 (cl p) (nI m)) 11 0 (cl p) 0).1 11 0 (cl p) = _
          rw [sIe]
        · rw [w7 i hi]
          simp only [mkF, rL, rD, sI, and_self, if_true, z i hi]
        · rw [w6 i hi]
          simp only [mkF, rL, rD, sI, and_self, if_true, z i hi]
        · exact ⟨0, fv_0.1, by rw [w7 i hi]; exact fv_0.2⟩
        · rw [k0] at g
          rw [w6 i hi, if_neg g]
          exact .inl rfl
theorem way_eq {M N : MM} {p : Int32} (c : colR M N (cl p)) (h : ¬ isPl p = false) (i b : Int32) : x_way M p i b = if ¬ mWay N (cl p) b = 0 then mWay N (cl p) b else if mHas N (cl p) i = false then -12 else 0 := by
  unfold x_way mWay
  rw [if_neg h, c.1]
  by_cases e : M.1 4 (cl p) 0 = -1
  · have d : ¬ (-11 : Int32) = 0 := by decide
    rw [if_pos e, if_pos e, if_pos d]
  · rw [if_neg e, if_neg e]
    by_cases e2 : b2i (¬ M.1 4 (cl p) 0 < 7) = b
    · have e3 : ¬ ¬ b2i (¬ M.1 4 (cl p) 0 < 7) = b := fun g => g e2
      rw [if_neg e3, if_neg e3]
      rcases c.2.2 with ⟨h1, h2, h3⟩ | ⟨h0, n, hn, h1, h2, h3, h4⟩
      · rw [if_pos h1, h3, if_neg e]
        have d : ¬ (1 : Int32) = 0 := by decide
        have d2 : ¬ (-11 : Int32) = 0 := by decide
        rw [if_neg d, if_pos d2]
      · have d : ¬ nI n = -1 := nI_n1 (by omega)
        have d2 : (0 : Int32) = 0 := rfl
        have d3 : ¬ ¬ (0 : Int32) = 0 := fun g => g rfl
        unfold inC mHas
        rw [h1, if_neg d, h3, h2, if_pos d2, if_neg d3]
        cases (!decide (i < 0) && decide (i < nI n)) <;> decide
    · have d : ¬ (-13 : Int32) = 0 := by decide
      rw [if_pos e2, if_pos e2, if_pos d]
