/-! ===== floats: no NaN comes up ===== -/
theorem n64_of {r : UInt64} (h : FP.Core.val64 r ≠ .nan) : vf_n64 r := by
  have h1 := (FP.Core.ne_nan r).mp h
  unfold vf_n64
  rw [UInt64.le_iff_toNat_le, UInt64.toNat_and]
  have e : (0x7fffffffffffffff : UInt64).toNat = 2 ^ 63 - 1 := by decide
  rw [e, Nat.and_two_pow_sub_one_eq_mod]
  exact h1
theorem n32_of {r : UInt32} (h : FP.Core.val32 r ≠ .nan) : vf_n32 r := by
  have h1 := (FP.Core.ne_nan32 r).mp h
  unfold vf_n32
  rw [UInt32.le_iff_toNat_le, UInt32.toNat_and]
  have e : (0x7fffffff : UInt32).toNat = 2 ^ 31 - 1 := by decide
  rw [e, Nat.and_two_pow_sub_one_eq_mod]
  exact h1
theorem rnd_nn (f : FP.Core.Fmt) {x : FP.Core.Datum} (h : x ≠ .nan) : FP.Core.round f x ≠ .nan := by
  cases x with
  | nan => exact absurd rfl h
  | inf s => intro e; cases e
  | fin s c q => exact FP.Core.roundRatio_ne_nan f s c 1 q
theorem prod_nn {x : FP.Core.Datum} (h : x ≠ .nan) {s : Bool} {c : Nat} {q : Int} (hc : c ≠ 0) : FP.Core.exactProduct x (.fin s c q) ≠ .nan := by
  cases x with
  | nan => exact absurd rfl h
  | inf t =>
    show (if c = 0 then FP.Core.Datum.nan else .inf (t != s)) ≠ .nan
    rw [if_neg hc]; intro e; cases e
  | fin t d r => intro e; cases e
theorem quot_nn (f : FP.Core.Fmt) {s t : Bool} {c d : Nat} {q r : Int} (hd : d ≠ 0) : FP.Core.quotient f (.fin s c q) (.fin t d r) ≠ .nan := by
  show (if d = 0 then (if c = 0 then FP.Core.Datum.nan else .inf (s != t)) else FP.Core.roundRatio f (s != t) c d (q - r)) ≠ .nan
  rw [if_neg hd]
  exact FP.Core.roundRatio_ne_nan _ _ _ _ _
theorem v_c8 : FP.Core.val64 4620693217682128896 = .fin false 4503599627370496 (-49) := by decide +kernel
theorem v_f8 : FP.Core.val32 1090519040 = .fin false 8388608 (-20) := by decide +kernel
theorem dmul8_nn {d : UInt64} (h : FP.Core.val64 d ≠ .nan) : FP.Core.val64 (FP.dmul d 4620693217682128896) ≠ .nan := by
  show FP.Core.val64 (FP.Core.dmul _ _) ≠ _
  rw [FP.Core.val64_dmul, v_c8]
  exact rnd_nn _ (prod_nn h (by decide))
theorem fmul8_nn {d : UInt32} (h : FP.Core.val32 d ≠ .nan) : FP.Core.val32 (FP.fmul d 1090519040) ≠ .nan := by
  show FP.Core.val32 (FP.Core.fmul _ _) ≠ _
  rw [FP.Core.val32_fmul, v_f8]
  exact rnd_nn _ (prod_nn h (by decide))
theorem d2f_is {d : UInt64} (h : FP.Core.val64 d ≠ .nan) : FP.d2f d = FP.Core.d2f d := FP.d2f_core ((FP.Core.notNaN_iff d).mpr h)
theorem f2d_is {d : UInt32} (h : FP.Core.val32 d ≠ .nan) : FP.f2d d = FP.Core.f2d d := FP.f2d_core ((FP.Core.notNaN_iff32 d).mpr h)
theorem d2f_nn {d : UInt64} (h : FP.Core.val64 d ≠ .nan) : FP.Core.val32 (FP.d2f d) ≠ .nan := by
  rw [d2f_is h, FP.Core.val32_d2f]
  exact rnd_nn _ h
theorem f2d_nn {d : UInt32} (h : FP.Core.val32 d ≠ .nan) : FP.Core.val64 (FP.f2d d) ≠ .nan := by
  rw [f2d_is h, FP.Core.val64_f2d]
  exact rnd_nn _ h
theorem l2d_nn (v : Int64) : FP.Core.val64 (FP.l2d v) ≠ .nan := by
  obtain ⟨c, q, h⟩ := FP.Core.l2d_shape v
  show FP.Core.val64 (FP.Core.l2d v) ≠ _
  rw [h]; intro e; cases e
theorem l2f_nn (v : Int64) : FP.Core.val32 (FP.l2f v) ≠ .nan := by
  obtain ⟨c, q, h⟩ := FP.Core.l2f_shape v
  show FP.Core.val32 (FP.Core.l2f v) ≠ _
  rw [h]; intro e; cases e
theorem fdiv8_nn (v : Int64) : FP.Core.val32 (FP.fdiv (FP.l2f v) 1090519040) ≠ .nan := by
  obtain ⟨c, q, h⟩ := FP.Core.l2f_shape v
  show FP.Core.val32 (FP.Core.fdiv (FP.Core.l2f v) _) ≠ _
  rw [FP.Core.val32_fdiv, h, v_f8]
  exact quot_nn _ (by decide)
theorem ddiv8_nn (v : Int64) : FP.Core.val64 (FP.ddiv (FP.l2d v) 4620693217682128896) ≠ .nan := by
  obtain ⟨c, q, h⟩ := FP.Core.l2d_shape v
  show FP.Core.val64 (FP.Core.ddiv (FP.Core.l2d v) _) ≠ _
  rw [FP.Core.val64_ddiv, h, v_c8]
  exact quot_nn _ (by decide)
