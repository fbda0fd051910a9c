/-! ===== a float column's cells tell the same on both sides ===== -/
theorem f2d_shape {a : UInt32} {s : Bool} {c k : Nat} (h : FP.Core.val32 a = .fin s c ((k : Int) - 149)) : ∃ c' k' : Nat, FP.Core.val64 (FP.f2d a) = .fin s c' ((k' : Int) - 1074) ∧ c' * 2 ^ k' = c * 2 ^ (k + 925) := by
  have hn : FP.Core.val32 a ≠ .nan := by rw [h]; intro e; cases e
  have hf := FP.Core.val32_fits a
  rw [h] at hf
  obtain ⟨c', q', hfit, hz, hv⟩ := FP.Core.within_fit FP.Core.good_b64 FP.Core.within_32_64 hf
  have h1 : FP.Core.val64 (FP.f2d a) = .fin s c' q' := by
    rw [f2d_is hn, FP.Core.val64_f2d, h]
    exact FP.Core.roundRatio_exact FP.Core.good_b64 (by decide) hfit hv
  have e1 : FP.Core.b64.qmin = -1074 := by decide +kernel
  have g1 := hfit.2.1
  rw [e1] at g1
  obtain ⟨k', hk'⟩ : ∃ k' : Nat, q' = (k' : Int) - 1074 := ⟨(q' + 1074).toNat, by omega⟩
  subst hk'
  refine ⟨c', k', h1, ?_⟩
  rw [Nat.mul_one, show ((k : Int) - 149 - ((k' : Int) - 1074)).toNat = k + 925 - k' by omega, show ((k' : Int) - 1074 - ((k : Int) - 149)).toNat = k' - (k + 925) by omega] at hv
  by_cases hq : k' ≤ k + 925
  · rw [show k' - (k + 925) = 0 by omega, Nat.pow_zero, Nat.mul_one] at hv
    rw [← hv, Nat.mul_assoc, ← Nat.pow_add, show k + 925 - k' + k' = k + 925 by omega]
  · rw [show k + 925 - k' = 0 by omega, Nat.pow_zero, Nat.mul_one] at hv
    rw [hv, Nat.mul_assoc, ← Nat.pow_add, show k' - (k + 925) + (k + 925) = k' by omega]
/-- a double of few digits -/
theorem ex64 {c k : Nat} (hc : c < 2 ^ 24) (hk : k ≤ 300) : ∃ V, FP.Core.fits FP.Core.b64 V ∧ V ≠ .nan ∧ FP.Core.zmag FP.Core.b64 V = c * 2 ^ (k + 928) := by
  have e1 : FP.Core.b64.qmin = -1074 := by decide +kernel
  have e3 : FP.Core.b64.qmax = 971 := by decide +kernel
  have e4 : FP.Core.b64.tails = 2 ^ 52 := by decide +kernel
  by_cases h0 : c = 0
  · subst h0
    refine ⟨.fin false 0 FP.Core.b64.qmin, FP.Core.zero_fits FP.Core.good_b64 false, (by intro e; cases e), ?_⟩
    show 0 * _ = _
    rw [Nat.zero_mul, Nat.zero_mul]
  · have l1 : 2 ^ c.log2 ≤ c := Nat.log2_self_le h0
    have l2 : c < 2 ^ (c.log2 + 1) := Nat.lt_log2_self
    have l3 : c.log2 < 24 := (Nat.pow_lt_pow_iff_right (by decide : 1 < 2)).mp (Nat.lt_of_le_of_lt l1 hc)
    generalize c.log2 = L at l1 l2 l3
    refine ⟨.fin false (c * 2 ^ (52 - L)) ((k : Int) - 146 - ((52 - L : Nat) : Int)), ⟨?_, ?_, ?_, .inr ?_⟩, (by intro e; cases e), ?_⟩
    · show c * 2 ^ (52 - L) < 2 ^ 53
      have h2 : c * 2 ^ (52 - L) < 2 ^ (L + 1) * 2 ^ (52 - L) := Nat.mul_lt_mul_of_pos_right l2 (Nat.two_pow_pos _)
      rw [← Nat.pow_add, show L + 1 + (52 - L) = 53 by omega] at h2
      exact h2
    · rw [e1]; omega
    · rw [e3]; omega
    · rw [e4]
      have h2 : 2 ^ L * 2 ^ (52 - L) ≤ c * 2 ^ (52 - L) := Nat.mul_le_mul_right _ l1
      rw [← Nat.pow_add, show L + (52 - L) = 52 by omega] at h2
      exact h2
    · show c * 2 ^ (52 - L) * 2 ^ ((k : Int) - 146 - ((52 - L : Nat) : Int) - FP.Core.b64.qmin).toNat = _
      rw [e1, Nat.mul_assoc, ← Nat.pow_add, show 52 - L + ((k : Int) - 146 - ((52 - L : Nat) : Int) - -1074).toNat = k + 928 by omega]
theorem bxf (s : Bool) : (s != false) = s := by cases s <;> rfl
theorem y8 {a : UInt32} {s : Bool} {c k : Nat} (h : FP.Core.val32 a = .fin s c ((k : Int) - 149)) (hc : c < 2 ^ 24) (hk : k ≤ 253) : FP.Core.sgn (FP.Core.val64 (FP.dmul (FP.f2d a) c8)) = s ∧ FP.Core.zmag FP.Core.b64 (FP.Core.val64 (FP.dmul (FP.f2d a) c8)) = c * 2 ^ (k + 928) := by
  obtain ⟨c', k', h1, h2⟩ := f2d_shape h
  have h3 : FP.Core.val64 (FP.dmul (FP.f2d a) c8) = FP.Core.roundRatio FP.Core.b64 s (c' * 4503599627370496) 1 ((k' : Int) - 1074 + -49) := by
    show FP.Core.val64 (FP.Core.dmul (FP.f2d a) c8) = _
    rw [FP.Core.val64_dmul, h1, v_c8]
    show FP.Core.roundRatio FP.Core.b64 (s != false) _ 1 _ = _
    rw [bxf]
  rw [h3]
  refine ⟨FP.Core.sgn_roundRatio _ _ _ _ _, ?_⟩
  obtain ⟨V, v1, v2, v3⟩ := ex64 hc (show k ≤ 300 by omega)
  have e1 : FP.Core.b64.qmin = -1074 := by decide +kernel
  have hu : FP.Core.inUnits (c' * 4503599627370496) ((k' : Int) - 1074 + -49) (-1200) = FP.Core.zmag FP.Core.b64 V * 2 ^ (FP.Core.b64.qmin - -1200).toNat * 1 := by
    show c' * 4503599627370496 * 2 ^ ((k' : Int) - 1074 + -49 - -1200).toNat = _
    rw [v3, e1, show ((k' : Int) - 1074 + -49 - -1200).toNat = k' + 77 by omega, show (-1074 - -1200 : Int).toNat = 126 by decide, Nat.mul_one, show (4503599627370496 : Nat) = 2 ^ 52 by decide, Nat.mul_assoc, ← Nat.pow_add, show 52 + (k' + 77) = k' + 129 by omega, Nat.pow_add, ← Nat.mul_assoc, h2, Nat.mul_assoc, Nat.mul_assoc, ← Nat.pow_add, ← Nat.pow_add, show k + 925 + 129 = k + 928 + 126 by omega]
  rw [← v3]
  refine Nat.le_antisymm ?_ ?_
  · exact FP.Core.zmag_roundRatio_le FP.Core.good_b64 (by decide) v1 v2 (by rw [e1]; decide) (by omega) (Nat.le_of_eq hu)
  · exact FP.Core.zmag_roundRatio_ge FP.Core.good_b64 (by decide) v1 (by rw [e1]; decide) (by omega) (Nat.le_of_eq hu.symm)
/-- the two wholes, of one sign, that come out alike -/
theorem x8 {a : UInt32} {s : Bool} {c k : Nat} (h : FP.Core.val32 a = .fin s c ((k : Int) - 149)) : FP.Core.sgn (FP.Core.val32 (FP.fmul a f8)) = s ∧ (FP.Core.zmag FP.Core.b32 (FP.Core.val32 (FP.fmul a f8)) / 2 ^ 149 = c * 2 ^ (k + 928) / 2 ^ 1074 ∨ 2 ^ 63 ≤ FP.Core.zmag FP.Core.b32 (FP.Core.val32 (FP.fmul a f8)) / 2 ^ 149 ∧ 2 ^ 63 ≤ c * 2 ^ (k + 928) / 2 ^ 1074) := by
  have hf := FP.Core.val32_fits a
  rw [h] at hf
  have g1 : c < 2 ^ 24 := hf.1
  have e1 : FP.Core.b32.qmin = -149 := by decide +kernel
  have e3 : FP.Core.b32.qmax = 104 := by decide +kernel
  have e4 : FP.Core.b32.tails = 2 ^ 23 := by decide +kernel
  have g3 := hf.2.2.1
  have g4 := hf.2.2.2
  rw [e3] at g3
  rw [e1, e4] at g4
  have h3 : FP.Core.val32 (FP.fmul a f8) = FP.Core.roundRatio FP.Core.b32 s (c * 8388608) 1 ((k : Int) - 149 + -20) := by
    show FP.Core.val32 (FP.Core.fmul a f8) = _
    rw [FP.Core.val32_fmul, h, v_f8]
    show FP.Core.roundRatio FP.Core.b32 (s != false) _ 1 _ = _
    rw [bxf]
  rw [h3]
  refine ⟨FP.Core.sgn_roundRatio _ _ _ _ _, ?_⟩
  have hu : FP.Core.inUnits (c * 8388608) ((k : Int) - 149 + -20) (-200) = c * 2 ^ (k + 54) := by
    show c * 8388608 * 2 ^ ((k : Int) - 149 + -20 - -200).toNat = _
    rw [show ((k : Int) - 149 + -20 - -200).toNat = k + 31 by omega, show (8388608 : Nat) = 2 ^ 23 by decide, Nat.mul_assoc, ← Nat.pow_add, show 23 + (k + 31) = k + 54 by omega]
  have p51 : (FP.Core.b32.qmin - -200).toNat = 51 := by rw [e1]; decide
  have hk2 : c * 2 ^ (k + 928) = c * 2 ^ (k + 3) * 2 ^ 925 := by rw [Nat.mul_assoc, ← Nat.pow_add]
  have hd : c * 2 ^ (k + 928) / 2 ^ 1074 = c * 2 ^ (k + 3) / 2 ^ 149 := by
    rw [hk2, show (1074 : Nat) = 149 + 925 by decide, Nat.pow_add 2 149 925, Nat.mul_div_mul_right _ _ (Nat.two_pow_pos 925)]
  rw [hd]
  by_cases n1 : 2 ^ 23 ≤ c
  · by_cases n2 : k ≤ 250
    · left
      have hV : FP.Core.fits FP.Core.b32 (.fin s c ((k : Int) - 146)) := ⟨g1, by rw [e1]; omega, by rw [e3]; omega, .inr (by rw [e4]; exact n1)⟩
      have hz : FP.Core.zmag FP.Core.b32 (.fin s c ((k : Int) - 146)) = c * 2 ^ (k + 3) := by
        show c * 2 ^ ((k : Int) - 146 - FP.Core.b32.qmin).toNat = _
        rw [e1, show ((k : Int) - 146 - -149).toNat = k + 3 by omega]
      have hq : FP.Core.inUnits (c * 8388608) ((k : Int) - 149 + -20) (-200) = FP.Core.zmag FP.Core.b32 (.fin s c ((k : Int) - 146)) * 2 ^ (FP.Core.b32.qmin - -200).toNat * 1 := by
        rw [hu, hz, p51, Nat.mul_one, Nat.mul_assoc, ← Nat.pow_add]
      have : FP.Core.zmag FP.Core.b32 (FP.Core.roundRatio FP.Core.b32 s (c * 8388608) 1 ((k : Int) - 149 + -20)) = c * 2 ^ (k + 3) := by
        rw [← hz]
        refine Nat.le_antisymm ?_ ?_
        · exact FP.Core.zmag_roundRatio_le FP.Core.good_b32 (by decide) hV (by intro e; cases e) (by rw [e1]; decide) (by omega) (Nat.le_of_eq hq)
        · exact FP.Core.zmag_roundRatio_ge FP.Core.good_b32 (by decide) hV (by rw [e1]; decide) (by omega) (Nat.le_of_eq hq.symm)
      rw [this]
    · right
      have hV : FP.Core.fits FP.Core.b32 (.fin s (2 ^ 23) 40) := ⟨by decide, by rw [e1]; decide, by rw [e3]; decide, .inr (by rw [e4]; exact Nat.le_refl _)⟩
      have hz : FP.Core.zmag FP.Core.b32 (.fin s (2 ^ 23) 40) = 2 ^ 63 * 2 ^ 149 := by
        show 2 ^ 23 * 2 ^ (40 - FP.Core.b32.qmin).toNat = _
        rw [e1, show (40 - -149 : Int).toNat = 189 by decide]
      have hb : 2 ^ 63 * 2 ^ 149 ≤ c * 2 ^ (k + 3) := by
        have := Nat.mul_le_mul n1 (Nat.pow_le_pow_right (show 0 < 2 by decide) (show 189 ≤ k + 3 by omega))
        rw [← Nat.pow_add] at this ⊢
        exact this
      have hq : FP.Core.zmag FP.Core.b32 (.fin s (2 ^ 23) 40) * 2 ^ (FP.Core.b32.qmin - -200).toNat * 1 ≤ FP.Core.inUnits (c * 8388608) ((k : Int) - 149 + -20) (-200) := by
        rw [hu, hz, p51, Nat.mul_one, show k + 54 = k + 3 + 51 by omega, Nat.pow_add 2 (k + 3) 51, ← Nat.mul_assoc]
        exact Nat.mul_le_mul_right _ hb
      have := FP.Core.zmag_roundRatio_ge FP.Core.good_b32 (s := s) (by decide) hV (by rw [e1]; decide) (by omega) hq
      rw [hz] at this
      exact ⟨(Nat.le_div_iff_mul_le (Nat.two_pow_pos 149)).mpr this, (Nat.le_div_iff_mul_le (Nat.two_pow_pos 149)).mpr hb⟩
  · left
    have hk0 : k = 0 := by
      rcases g4 with g4 | g4
      · omega
      · exact absurd g4 n1
    subst hk0
    have hV : FP.Core.fits FP.Core.b32 (.fin s (2 ^ 23) (-24)) := ⟨by decide, by rw [e1]; decide, by rw [e3]; decide, .inr (by rw [e4]; exact Nat.le_refl _)⟩
    have hz : FP.Core.zmag FP.Core.b32 (.fin s (2 ^ 23) (-24)) = 2 ^ 148 := by
      show 2 ^ 23 * 2 ^ (-24 - FP.Core.b32.qmin).toNat = _
      rw [e1, show (-24 - -149 : Int).toNat = 125 by decide, ← Nat.pow_add]
    have hb : c * 2 ^ (0 + 3) < 2 ^ 149 := by
      have h5 : c * 2 ^ (0 + 3) ≤ 2 ^ 23 * 2 ^ (0 + 3) := Nat.mul_le_mul_right _ (by omega)
      exact Nat.lt_of_le_of_lt h5 (by decide)
    have hq : FP.Core.inUnits (c * 8388608) ((0 : Nat) - 149 + -20 : Int) (-200) ≤ FP.Core.zmag FP.Core.b32 (.fin s (2 ^ 23) (-24)) * 2 ^ (FP.Core.b32.qmin - -200).toNat * 1 := by
      rw [hu, hz, p51, Nat.mul_one]
      have h5 : c * 2 ^ (0 + 54) ≤ 2 ^ 23 * 2 ^ (0 + 54) := Nat.mul_le_mul_right _ (by omega)
      exact Nat.le_trans h5 (by decide)
    have := FP.Core.zmag_roundRatio_le FP.Core.good_b32 (s := s) (by decide) hV (by intro e; cases e) (by rw [e1]; decide) (by omega) hq
    rw [hz] at this
    rw [Nat.div_eq_of_lt hb, Nat.div_eq_of_lt (Nat.lt_of_le_of_lt this (by decide))]
theorem d2f_back {a : UInt32} (h : FP.Core.val32 a ≠ .nan) : FP.d2f (FP.f2d a) = a := by
  rw [d2f_is (f2d_nn h), f2d_is h, FP.Core.d2f_f2d h]
theorem tel5 {a : UInt32} (h : FP.Core.val32 a ≠ .nan) : FP.f2l (FP.fmul (FP.d2f (FP.f2d a)) f8) = FP.d2l (FP.dmul (FP.f2d a) c8) := by
  rw [d2f_back h]
  cases hv : FP.Core.val32 a with
  | nan => exact absurd hv h
  | inf s =>
    have h1 : FP.Core.val32 (FP.Core.fmul a f8) = .inf s := by
      rw [FP.Core.val32_fmul, hv, v_f8]
      show FP.Core.round FP.Core.b32 (if 8388608 = 0 then .nan else .inf (s != false)) = _
      rw [if_neg (by decide), bxf]
      rfl
    have h2 : FP.Core.val64 (FP.Core.dmul (FP.f2d a) c8) = .inf s := by
      rw [FP.Core.val64_dmul, f2d_is h, FP.Core.val64_f2d, hv, v_c8]
      show FP.Core.round FP.Core.b64 (if 4503599627370496 = 0 then .nan else .inf (s != false)) = _
      rw [if_neg (by decide), bxf]
      rfl
    show Int64.ofInt (FP.Core.toInt (-2 ^ 63) (2 ^ 63 - 1) (FP.Core.val32 (FP.Core.fmul a f8))) = Int64.ofInt (FP.Core.toInt (-2 ^ 63) (2 ^ 63 - 1) (FP.Core.val64 (FP.Core.dmul (FP.f2d a) c8)))
    rw [h1, h2]
  | fin s c q =>
    have hf := FP.Core.val32_fits a
    rw [hv] at hf
    have e1 : FP.Core.b32.qmin = -149 := by decide +kernel
    have e3 : FP.Core.b32.qmax = 104 := by decide +kernel
    have g2 := hf.2.1
    have g3 := hf.2.2.1
    rw [e1] at g2
    rw [e3] at g3
    obtain ⟨k, hk⟩ : ∃ k : Nat, q = (k : Int) - 149 := ⟨(q + 149).toNat, by omega⟩
    subst hk
    obtain ⟨y1, y2⟩ := y8 hv hf.1 (by omega)
    obtain ⟨x1, x2⟩ := x8 hv
    have n1 := fmul8_nn h
    have n2 := dmul8_nn (f2d_nn h)
    refine Int64.toInt_inj.mp ?_
    rw [show (FP.f2l (FP.fmul a f8)).toInt = _ from FP.Core.f2l_val n1, show (FP.d2l (FP.dmul (FP.f2d a) c8)).toInt = _ from FP.Core.d2l_val n2, x1, y1, y2]
    unfold FP.Core.one32 FP.Core.one64
    generalize FP.Core.zmag FP.Core.b32 (FP.Core.val32 (FP.fmul a f8)) / 2 ^ 149 = X at x2 ⊢
    generalize c * 2 ^ (k + 928) / 2 ^ 1074 = Y at x2 ⊢
    rcases x2 with x2 | ⟨x2, x3⟩
    · rw [x2]
    · unfold FP.Core.signed
      cases s
      · simp only [Bool.false_eq_true, if_false]; omega
      · simp only [if_true]; omega
