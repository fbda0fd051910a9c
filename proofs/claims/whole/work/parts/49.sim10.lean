/-! ===== turn ===== -/
theorem num_k {k : Int32} (h : KR k) (h0 : ¬ k = -1) (h7 : k < 7) : k < 5 ∧ isR k = false ∨ ¬ k < 5 ∧ isR k = true ∧ (k = 5 ∨ k = 6) := by
  rcases h with h | ⟨j, hj, rfl⟩
  · exact absurd h h0
  · have h9 : j < 7 := (nI_ltI (by omega) (by omega)).mp (show nI j < nI 7 from h7)
    have h3 : j = 0 ∨ j = 1 ∨ j = 2 ∨ j = 3 ∨ j = 4 ∨ j = 5 ∨ j = 6 := by omega
    rcases h3 with h3 | h3 | h3 | h3 | h3 | h3 | h3 <;> subst h3
    · exact .inl (by decide)
    · exact .inl (by decide)
    · exact .inl (by decide)
    · exact .inl (by decide)
    · exact .inl (by decide)
    · exact .inr (by decide)
    · exact .inr (by decide)
theorem can_eq {M N : MM} {p n i : Nat} (c : colR M N p) (nm : numR M N) (l : liveR M N p n) (hi : i < n) (h0 : ¬ M.1 4 p 0 = -1) (h7 : M.1 4 p 0 < 7) {t : Int32} (ht : KR t) (t0 : ¬ t = -1) (t7 : t < 7) : mCan N (40 * p + i) (N.1 9 0 p) t = xF M p i t := by
  obtain ⟨l1, l2, l3, l4⟩ := l i hi
  unfold mCan xF
  rw [c.1]
  rcases num_k c.2.1 h0 h7 with ⟨a1, a2⟩ | ⟨a1, a2, a3⟩
  · have a2' : ¬ isR (M.1 4 p 0) = true := by rw [a2]; decide
    rw [if_pos a1, if_neg a2', l2 a2]
    rcases num_k ht t0 t7 with ⟨b1, b2⟩ | ⟨b1, b2, b3⟩
    · rw [if_pos b1, mFits_eq b1]
    · rw [if_neg b1]
      rcases b3 with b3 | b3
      · subst b3
        rw [if_pos rfl, wF5_eq]
      · subst b3
        have d : ¬ (6 : Int32) = 5 := by decide
        rw [if_neg d, wF6_eq]
  · rw [if_neg a1, if_pos a2, l1 a2]
    rcases num_k ht t0 t7 with ⟨b1, b2⟩ | ⟨b1, b2, b3⟩
    · rw [if_pos b1, rF_eq (nm.1 p i) b1]
    · rw [if_neg b1]
      rcases b3 with b3 | b3
      · subst b3
        have d : ¬ (5 : Int32) = 6 := by decide
        unfold rF
        rw [if_neg d, if_pos rfl]
      · subst b3
        have d : ¬ (6 : Int32) = 5 := by decide
        unfold rF
        rw [if_pos rfl, if_neg d, if_pos rfl]
/-- doubles that compare alike are alike, but for zeros -/
theorem same_bits {a b : UInt64} (ha : FP.Core.val64 a ≠ .nan) (hb : FP.Core.val64 b ≠ .nan) (h : Op.cmpValue (FP.dcmp a b) .l = 0) : a = b ∨ (a.toNat % 2 ^ 63 = 0 ∧ (b = 0 ∨ b = 9223372036854775808)) := by
  have h1 := (dc_eq ha hb .l).mp h
  have h2 : FP.Core.dcmp a b = some .eq := FP.Core.dcmp_eq.mpr ⟨ha, hb, h1⟩
  have h3 := (FP.Core.dcmp_eq_key ha hb).mp h2
  unfold FP.Core.dkey at h3
  have la := a.toNat_lt
  have lb := b.toNat_lt
  by_cases e : a.toNat = b.toNat
  · exact .inl (UInt64.toNat_inj.mp e)
  · refine .inr ?_
    have z : a.toNat % 2 ^ 63 = 0 ∧ (b.toNat = 0 ∨ b.toNat = 9223372036854775808) := by
      split at h3 <;> split at h3 <;> omega
    refine ⟨z.1, ?_⟩
    rcases z.2 with z | z
    · exact .inl (UInt64.toNat_inj.mp z)
    · exact .inr (UInt64.toNat_inj.mp z)
theorem fv_z : ∃ a, FP.Core.val32 a ≠ .nan ∧ (9223372036854775808 : UInt64) = FP.f2d a := ⟨2147483648, by decide +kernel⟩
/-- a double that goes to a float and back is a float's -/
theorem fv_r {d : UInt64} (h : FP.Core.val64 d ≠ .nan) (e : rF d 5 = true) : ∃ a, FP.Core.val32 a ≠ .nan ∧ d = FP.f2d a := by
  unfold rF at e
  rw [if_pos rfl] at e
  rcases same_bits (f2d_nn (d2f_nn h)) h (of_decide_eq_true e) with g | ⟨_, g | g⟩
  · exact ⟨_, d2f_nn h, g.symm⟩
  · exact ⟨0, fv_0.1, by rw [g]; exact fv_0.2⟩
  · rw [g]; exact fv_z
theorem fv_w {w : Int64} (e : wF w 5 = true) : ∃ a, FP.Core.val32 a ≠ .nan ∧ FP.l2d w = FP.f2d a := by
  unfold wF at e
  rw [if_pos rfl] at e
  unfold isJ at e
  have e2 := (Bool.and_eq_true_iff.mp (Bool.and_eq_true_iff.mp e).1).2
  rcases same_bits (l2d_nn w) (f2d_nn (l2f_nn w)) (of_decide_eq_true e2) with g | ⟨g, _⟩
  · exact ⟨_, l2f_nn w, g⟩
  · by_cases hw : w = 0
    · subst hw
      exact ⟨0, by decide +kernel⟩
    · exact absurd g (FP.Core.l2d_ne_zero hw)
