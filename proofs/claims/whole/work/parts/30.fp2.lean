/-! ===== the two sides' words on numbers agree ===== -/
theorem mLow_eq (k : Int32) (v : Int64) : mLow k v = lowB v k := by
  unfold mLow lowB
  have e : v &&& 65535 = (v.toInt32.toUInt32 % 65536).toInt32.toInt64 := by
    apply Int64.toInt_inj.mp
    have h1 : (v &&& 65535).toInt = ((v.toBitVec.toNat % 65536 : Nat) : Int) := by
      show (v.toBitVec &&& 65535#64).toInt = _
      have h2 : (v.toBitVec &&& 65535#64).toNat = v.toBitVec.toNat % 65536 := by
        rw [BitVec.toNat_and]
        exact Nat.and_two_pow_sub_one_eq_mod _ 16
      rw [BitVec.toInt_eq_toNat_of_lt (by rw [h2]; have := Nat.mod_lt v.toBitVec.toNat (show 0 < 65536 by decide); omega), h2]
    have h3 : (v.toInt32.toUInt32 % 65536).toNat = v.toBitVec.toNat % 65536 := by
      rw [UInt32.toNat_mod]
      show (v.toBitVec.signExtend 32).toNat % 65536 = _
      rw [BitVec.signExtend_eq_setWidth_of_le _ (by decide), BitVec.toNat_setWidth]
      omega
    have h4 : ((v.toInt32.toUInt32 % 65536).toInt32.toInt64).toInt = ((v.toBitVec.toNat % 65536 : Nat) : Int) := by
      rw [Int32.toInt_toInt64]
      show (v.toInt32.toUInt32 % 65536).toBitVec.toInt = _
      have h5 : (v.toInt32.toUInt32 % 65536).toBitVec.toNat = v.toBitVec.toNat % 65536 := h3
      rw [BitVec.toInt_eq_toNat_of_lt (by rw [h5]; have := Nat.mod_lt v.toBitVec.toNat (show 0 < 65536 by decide); omega), h5]
    rw [h1, h4]
  rw [e]
theorem mFits_eq {k : Int32} (h : k < 5) (v : Int64) : mFits k v = wF v k := by
  have h5 : ¬ k = 5 := by intro e; subst e; exact absurd h (by decide)
  have h6 : ¬ k = 6 := by intro e; subst e; exact absurd h (by decide)
  unfold mFits wF
  rw [mLow_eq, if_neg h5, if_neg h6]
abbrev Z64 (a : UInt64) : Int := FP.Core.zval FP.Core.b64 (FP.Core.val64 a)
theorem dc_lt {a b : UInt64} (ha : FP.Core.val64 a ≠ .nan) (hb : FP.Core.val64 b ≠ .nan) (g : CmpOp) : (Op.cmpValue (FP.dcmp a b) g < 0) ↔ Z64 a < Z64 b := by
  show Op.cmpValue (FP.Core.dcmp a b) g < 0 ↔ _
  rw [FP.Core.dcmp_zval ha hb]
  rcases Int.lt_trichotomy (Z64 a) (Z64 b) with h | h | h
  · rw [(FP.Core.compare_lt_iff _ _).mpr h]; exact iff_of_true (by cases g <;> decide) h
  · rw [(FP.Core.compare_eq_iff _ _).mpr h]; exact iff_of_false (by cases g <;> decide) (by omega)
  · rw [(FP.Core.compare_gt_iff _ _).mpr h]; exact iff_of_false (by cases g <;> decide) (by omega)
theorem dc_eq {a b : UInt64} (ha : FP.Core.val64 a ≠ .nan) (hb : FP.Core.val64 b ≠ .nan) (g : CmpOp) : (Op.cmpValue (FP.dcmp a b) g = 0) ↔ Z64 a = Z64 b := by
  show Op.cmpValue (FP.Core.dcmp a b) g = 0 ↔ _
  rw [FP.Core.dcmp_zval ha hb]
  rcases Int.lt_trichotomy (Z64 a) (Z64 b) with h | h | h
  · rw [(FP.Core.compare_lt_iff _ _).mpr h]; exact iff_of_false (by cases g <;> decide) (by omega)
  · rw [(FP.Core.compare_eq_iff _ _).mpr h]; exact iff_of_true (by cases g <;> decide) h
  · rw [(FP.Core.compare_gt_iff _ _).mpr h]; exact iff_of_false (by cases g <;> decide) (by omega)
theorem nn_c63 : FP.Core.val64 c63 ≠ .nan := by decide +kernel
theorem nn_cm63 : FP.Core.val64 cm63 ≠ .nan := by decide +kernel
theorem lg_self (a : Int64) : lg_cmp a a = 0 := by
  unfold lg_cmp
  rw [if_neg (by simp), if_pos rfl]
theorem lg_eq {a b : Int64} : (lg_cmp a b = 0) ↔ a = b := by
  constructor
  · intro h
    unfold lg_cmp at h
    split at h
    · exact absurd h (by decide)
    · split at h
      · rename_i e; exact e
      · exact absurd h (by decide)
  · intro h; subst h; exact lg_self _
theorem l2d_lo (w : Int64) : Z64 cm63 ≤ Z64 (FP.l2d w) := by
  refine FP.Core.l2d_zval_ge nn_cm63 ?_
  rw [FP.Core.zval_d2l_lo, ← Int.neg_mul]
  have h := w.le_toInt
  exact Int.mul_le_mul_of_nonneg_right (by omega) (by omega)
theorem rF_eq {d : UInt64} (h : FP.Core.val64 d ≠ .nan) {t : Int32} (ht : t < 5) : (mInL d && decide (Op.cmpValue (FP.dcmp (FP.l2d (FP.d2l d)) d) .l = 0) && mFits t (FP.d2l d)) = rF d t := by
  have h5 : ¬ t = 5 := by intro e; subst e; exact absurd ht (by decide)
  have h6 : ¬ t = 6 := by intro e; subst e; exact absurd ht (by decide)
  unfold rF isJ mInL
  rw [if_neg h5, if_neg h6, mFits_eq ht]
  have e := lg_self (FP.d2l d)
  by_cases hE : Op.cmpValue (FP.dcmp (FP.l2d (FP.d2l d)) d) .l = 0
  · have h1 : ¬ (Op.cmpValue (FP.dcmp d cm63) .l < 0) := by
      rw [dc_lt h nn_cm63]
      have h2 := (dc_eq (l2d_nn _) h .l).mp hE
      have h3 := l2d_lo (FP.d2l d)
      omega
    simp only [hE, h1, e, decide_true, decide_false, Bool.not_false, Bool.true_and, Bool.and_true]
  · simp only [hE, decide_false, Bool.and_false, Bool.false_and]
theorem wF6_eq (w : Int64) : (mInL (FP.l2d w) && decide (lg_cmp (FP.d2l (FP.l2d w)) w = 0)) = wF w 6 := by
  unfold wF isJ mInL
  rw [if_neg (by decide), if_pos rfl]
  have h1 : ¬ (Op.cmpValue (FP.dcmp (FP.l2d w) cm63) .l < 0) := by
    rw [dc_lt (l2d_nn _) nn_cm63]
    have h3 := l2d_lo w
    omega
  have h2 : Op.cmpValue (FP.dcmp (FP.l2d w) (FP.l2d w)) .l = 0 := (dc_eq (l2d_nn _) (l2d_nn _) .l).mpr rfl
  simp only [h1, h2, decide_true, decide_false, Bool.not_false, Bool.true_and, Bool.and_true]
/-- a float's value as a double -/
theorem f2d_zval {a : UInt32} {s : Bool} {c : Nat} {q : Int} (h : FP.Core.val32 a = .fin s c q) : Z64 (FP.f2d a) = FP.Core.zval FP.Core.b32 (FP.Core.val32 a) * ((2 ^ 925 : Nat) : Int) := by
  have hn : FP.Core.val32 a ≠ .nan := by rw [h]; intro e; cases e
  have hf := FP.Core.val32_fits a
  rw [h] at hf
  obtain ⟨c', q', hfit, hz, hv⟩ := FP.Core.within_fit FP.Core.good_b64 FP.Core.within_32_64 hf
  have h1 : FP.Core.val64 (FP.f2d a) = .fin s c' q' := by
    rw [f2d_is hn, FP.Core.val64_f2d, h]
    exact FP.Core.roundRatio_exact FP.Core.good_b64 (by decide) hfit hv
  show FP.Core.zval FP.Core.b64 (FP.Core.val64 (FP.f2d a)) = _
  rw [h1, h]
  show FP.Core.signed s (c' * 2 ^ (q' - FP.Core.b64.qmin).toNat) = FP.Core.signed s (c * 2 ^ (q - FP.Core.b32.qmin).toNat) * _
  rw [← FP.Core.signed_mul]
  refine congrArg (FP.Core.signed s) ?_
  have e1 : FP.Core.b64.qmin = -1074 := by decide +kernel
  have e2 : FP.Core.b32.qmin = -149 := by decide +kernel
  have g1 := hfit.2.1
  have g2 := hf.2.1
  rw [e1] at g1 ⊢
  rw [e2] at g2 ⊢
  rw [Nat.mul_assoc, ← Nat.pow_add, show (q - -149).toNat + 925 = (q + 1074).toNat by omega]
  rw [Nat.mul_one] at hv
  by_cases hq : q' ≤ q
  · rw [show (q' - q).toNat = 0 by omega, Nat.pow_zero, Nat.mul_one] at hv
    rw [← hv, Nat.mul_assoc, ← Nat.pow_add, show (q - q').toNat + (q' - -1074).toNat = (q + 1074).toNat by omega]
  · rw [show (q - q').toNat = 0 by omega, Nat.pow_zero, Nat.mul_one] at hv
    rw [hv, Nat.mul_assoc, ← Nat.pow_add, show (q' - q).toNat + (q + 1074).toNat = (q' - -1074).toNat by omega]
theorem l2f_whole (w : Int64) : ∃ z : Int, FP.Core.zval FP.Core.b32 (FP.Core.val32 (FP.l2f w)) = z * (FP.Core.one32 : Int) := by
  by_cases hw : w.toInt.natAbs ≤ 2 ^ 24
  · exact ⟨w.toInt, FP.Core.FInt_zval (FP.Core.l2f_int hw)⟩
  · obtain ⟨c, q, hv⟩ := FP.Core.l2f_shape w
    have hf := FP.Core.val32_fits (FP.Core.l2f w)
    have e2 : FP.Core.b32.qmin = -149 := by decide +kernel
    have hm := FP.Core.zmag_roundRatio_ge FP.Core.good_b32 (s := decide (w.toInt < 0)) (A := w.toInt.natAbs) (B := 1) (e := 0) (e0 := -149) (V := .fin false 8388608 1) (by decide) (by unfold FP.Core.fits; decide +kernel) (by rw [e2]; decide) (by decide) (by
      show 8388608 * 2 ^ (1 - FP.Core.b32.qmin).toNat * 2 ^ (FP.Core.b32.qmin - -149).toNat * 1 ≤ w.toInt.natAbs * 2 ^ (0 - -149 : Int).toNat
      rw [e2, show (1 - -149 : Int).toNat = 150 by decide, show (-149 - -149 : Int).toNat = 0 by decide, show (0 - -149 : Int).toNat = 149 by decide, Nat.pow_zero, Nat.mul_one, Nat.mul_one, Nat.pow_succ, ← Nat.mul_assoc, Nat.mul_right_comm]
      exact Nat.mul_le_mul_right _ (by omega))
    have h1 : FP.Core.val32 (FP.Core.l2f w) = FP.Core.roundRatio FP.Core.b32 (decide (w.toInt < 0)) w.toInt.natAbs 1 0 := FP.Core.val32_l2f w
    rw [← h1, hv] at hm
    rw [hv] at hf
    have hm2 : 8388608 * 2 ^ (1 - FP.Core.b32.qmin).toNat ≤ c * 2 ^ (q - FP.Core.b32.qmin).toNat := hm
    have g1 : c < 2 ^ 24 := hf.1
    have g2 := hf.2.1
    rw [e2] at hm2 g2
    have hq : 0 ≤ q := by
      refine Int.not_lt.mp fun hlt => ?_
      have h3 : c * 2 ^ (q - -149).toNat ≤ 2 ^ 24 * 2 ^ 149 := Nat.mul_le_mul (Nat.le_of_lt g1) (Nat.pow_le_pow_right (by decide) (by omega))
      have h4 : 2 ^ (q - -149).toNat ≤ 2 ^ 148 := Nat.pow_le_pow_right (by decide) (by omega)
      have h5 : c * 2 ^ (q - -149).toNat ≤ 2 ^ 24 * 2 ^ 148 := Nat.mul_le_mul (Nat.le_of_lt g1) h4
      have h6 := Nat.le_trans hm2 h5
      exact absurd h6 (by decide +kernel)
    refine ⟨FP.Core.signed (decide (w.toInt < 0)) (c * 2 ^ q.toNat), ?_⟩
    show FP.Core.zval FP.Core.b32 (FP.Core.val32 (FP.Core.l2f w)) = _
    rw [hv, ← FP.Core.signed_mul]
    show FP.Core.signed _ (c * 2 ^ (q - FP.Core.b32.qmin).toNat) = _
    rw [e2, Nat.mul_assoc]
    unfold FP.Core.one32
    rw [← Nat.pow_add, show (q - -149).toNat = q.toNat + 149 by omega]
    rfl
theorem fl_whole (w : Int64) : ∃ z : Int, Z64 (FP.f2d (FP.l2f w)) = z * (FP.Core.one64 : Int) := by
  obtain ⟨z, hz⟩ := l2f_whole w
  obtain ⟨c, q, hv⟩ := FP.Core.l2f_shape w
  refine ⟨z, ?_⟩
  rw [f2d_zval hv]
  show FP.Core.zval FP.Core.b32 (FP.Core.val32 (FP.l2f w)) * _ = _
  rw [hz, Int.mul_assoc, ← Int.natCast_mul]
  unfold FP.Core.one32 FP.Core.one64
  rw [← Nat.pow_add]
/-- a whole double within range is what d2l makes of it -/
theorem d2l_whole {d : UInt64} (h : FP.Core.val64 d ≠ .nan) {z : Int} (hz : Z64 d = z * (FP.Core.one64 : Int)) (h1 : -9223372036854775808 ≤ z) (h2 : z < 9223372036854775808) : (FP.d2l d).toInt = z := by
  show (FP.Core.d2l d).toInt = z
  rw [FP.Core.d2l_val h]
  have hp := FP.Core.one64_pos
  have hz' : FP.Core.signed (FP.Core.sgn (FP.Core.val64 d)) (FP.Core.zmag FP.Core.b64 (FP.Core.val64 d)) = z * (FP.Core.one64 : Int) := hz
  generalize FP.Core.sgn (FP.Core.val64 d) = s at hz' ⊢
  generalize FP.Core.zmag FP.Core.b64 (FP.Core.val64 d) = m at hz' ⊢
  have hm : m = z.natAbs * FP.Core.one64 := by
    have := congrArg Int.natAbs hz'
    rw [FP.Core.natAbs_signed, Int.natAbs_mul, Int.natAbs_natCast] at this
    exact this
  rw [hm, Nat.mul_div_cancel _ hp]
  have hs : FP.Core.signed s z.natAbs = z := by
    rw [hm, FP.Core.signed_mul] at hz'
    exact Int.eq_of_mul_eq_mul_right (by omega) hz'
  rw [hs]
  omega
theorem wF5_eq (w : Int64) : (mInL (FP.f2d (FP.l2f w)) && decide (lg_cmp (FP.d2l (FP.f2d (FP.l2f w))) w = 0)) = wF w 5 := by
  unfold wF isJ mInL
  rw [if_pos rfl]
  have hn : FP.Core.val64 (FP.f2d (FP.l2f w)) ≠ .nan := f2d_nn (l2f_nn w)
  obtain ⟨z, hz⟩ := fl_whole w
  generalize FP.f2d (FP.l2f w) = d at hn hz ⊢
  have hp := FP.Core.one64_pos
  by_cases c1 : Op.cmpValue (FP.dcmp d c63) .g < 0
  · by_cases c2 : lg_cmp (FP.d2l d) w = 0
    · have k1 : (Op.cmpValue (FP.dcmp (FP.l2d w) d) .l = 0) ↔ ¬ (Op.cmpValue (FP.dcmp d cm63) .l < 0) := by
        rw [dc_eq (l2d_nn w) hn, dc_lt hn nn_cm63]
        constructor
        · intro e
          have h3 := l2d_lo w
          omega
        · intro e
          have b1 := (dc_lt hn nn_c63 .g).mp c1
          rw [show Z64 c63 = ((9223372036854775808 : Nat) : Int) * (FP.Core.one64 : Int) from FP.Core.zval_d2l_hi, hz] at b1
          rw [show Z64 cm63 = -(((9223372036854775808 : Nat) : Int) * (FP.Core.one64 : Int)) from FP.Core.zval_d2l_lo, hz, ← Int.neg_mul] at e
          have z1 : z < 9223372036854775808 := Int.lt_of_mul_lt_mul_right b1 (by omega)
          have z2 : -9223372036854775808 ≤ z := Int.le_of_mul_le_mul_right (Int.not_lt.mp e) (by omega)
          have hw := d2l_whole hn hz z2 z1
          rw [lg_eq.mp c2] at hw
          have a1 := FP.Core.l2d_zval_ge (n := w) hn (by rw [hw]; exact Int.le_of_eq hz)
          have a2 := FP.Core.l2d_zval_le (n := w) hn (by rw [hw]; exact Int.le_of_eq hz.symm)
          exact Int.le_antisymm a2 a1
      by_cases c3 : Op.cmpValue (FP.dcmp d cm63) .l < 0
      · have c4 : ¬ (Op.cmpValue (FP.dcmp (FP.l2d w) d) .l = 0) := fun e => k1.mp e c3
        simp only [c3, c4, decide_true, decide_false, Bool.not_true, Bool.false_and, Bool.and_false]
      · have c4 := k1.mpr c3
        simp only [c1, c2, c3, c4, decide_true, decide_false, Bool.not_false, Bool.and_true]
    · simp only [c2, decide_false, Bool.and_false]
  · simp only [c1, decide_false, Bool.and_false, Bool.false_and]
