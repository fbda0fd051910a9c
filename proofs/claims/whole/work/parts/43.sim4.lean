/-! ===== one cell set; put ===== -/
theorem nI_inj' {n m : Nat} (hn : n ≤ 1000) (hm : m ≤ 1000) (h : nI n = nI m) : n = m := by
  have := congrArg Int32.toNatClampNeg h
  rw [nI_clamp (by omega), nI_clamp (by omega)] at this
  exact this
theorem RR_setD {M N : MM} (r : RR M N) {q i0 n : Nat} (hq : q < 24) (hn : n ≤ 40) (hi : i0 < n) (k1 : M.1 4 q 1 = nI n) (hR : isR (M.1 4 q 0) = true) {V : UInt64} (hV : FP.Core.val64 V ≠ .nan) (h5 : M.1 4 q 0 = 5 → ∃ a, FP.Core.val32 a ≠ .nan ∧ V = FP.f2d a) : RR (sD M 7 q i0 V) (sD N 13 0 (40 * q + i0) V) := by
  have c := r.1 q hq
  refine RR_at r q hq ⟨rfl, rfl, fun q' h' => ⟨rfl, rfl, ?_⟩⟩ ⟨rfl, rfl, rfl, rfl, rfl, rfl⟩ (fun q' h' => ⟨rfl, rfl, rfl, fun i hi' => ⟨rfl, ?_⟩⟩) ⟨fun p i => ?_, fun i => ?_, fun i => ?_⟩ ?_
  · funext k; simp only [sD, h', and_false, false_and, if_false]
  · have e : ¬ 40 * q' + i = 40 * q + i0 := by omega
    simp only [sD, e, and_false, if_false]
  · simp only [sD, true_and]
    by_cases g : p = q ∧ i = i0
    · rw [if_pos g]; exact hV
    · rw [if_neg g]; exact r.2.2.2.1.1 _ _
  · simp only [sD, true_and]
    by_cases g : i = 40 * q + i0
    · rw [if_pos g]; exact hV
    · rw [if_neg g]; exact r.2.2.2.1.2.1 _
  · simp only [sD, show ¬ 18 = 13 by decide, false_and, if_false]
    exact r.2.2.2.1.2.2 _
  · rcases c.2.2 with ⟨h1, _⟩ | ⟨h0, m, hm, g1, g2, g3, g4⟩
    · rw [k1] at h1
      exact absurd h1 (nI_n1 (by omega))
    · refine ⟨c.1, c.2.1, .inr ⟨h0, m, hm, g1, g2, g3, fun i hi => ?_⟩⟩
      have g := g4 i hi
      refine ⟨fun hr => ?_, fun hf => g.2.1 hf, fun k5 => ?_, fun hs => g.2.2.2 hs⟩
      · by_cases e : i = i0
        · subst e; simp only [sD, and_self, if_true]
        · have e' : ¬ 40 * q + i = 40 * q + i0 := by omega
          simp only [sD, e, e', and_false, if_false]
          exact g.1 hr
      · by_cases e : i = i0
        · subst e; simp only [sD, and_self, if_true]; exact h5 k5
        · simp only [sD, e, and_false, if_false]
          exact g.2.2.1 k5
theorem RR_setL {M N : MM} (r : RR M N) {q i0 n : Nat} (hq : q < 24) (hn : n ≤ 40) (hi : i0 < n) (k1 : M.1 4 q 1 = nI n) (hR : isR (M.1 4 q 0) = false) {V : Int64} (hs : ¬ M.1 4 q 0 < 7 → V = -1 ∨ ∃ j, j < 40 ∧ nI j < M.1 0 0 3 ∧ V = lN j) : RR (sL M 6 q i0 V) (sL N 12 0 (40 * q + i0) V) := by
  have c := r.1 q hq
  refine RR_at r q hq ⟨rfl, rfl, fun q' h' => ⟨rfl, ?_, rfl⟩⟩ ⟨rfl, rfl, rfl, rfl, rfl, rfl⟩ (fun q' h' => ⟨rfl, rfl, rfl, fun i hi' => ⟨?_, rfl⟩⟩) r.2.2.2.1 ?_
  · funext k; simp only [sL, h', and_false, false_and, if_false]
  · have e : ¬ 40 * q' + i = 40 * q + i0 := by omega
    simp only [sL, e, and_false, if_false]
  · rcases c.2.2 with ⟨h1, _⟩ | ⟨h0, m, hm, g1, g2, g3, g4⟩
    · rw [k1] at h1
      exact absurd h1 (nI_n1 (by omega))
    · refine ⟨c.1, c.2.1, .inr ⟨h0, m, hm, g1, g2, g3, fun i hi => ?_⟩⟩
      have g := g4 i hi
      refine ⟨fun hr => g.1 hr, fun hf => ?_, fun k5 => g.2.2.1 k5, fun hk => ?_⟩
      · by_cases e : i = i0
        · subst e; simp only [sL, and_self, if_true]
        · have e' : ¬ 40 * q + i = 40 * q + i0 := by omega
          simp only [sL, e, e', and_false, if_false]
          exact g.2.1 hf
      · by_cases e : i = i0
        · subst e; simp only [sL, and_self, if_true]; exact hs hk
        · simp only [sL, e, and_false, if_false]
          exact g.2.2.2 hk
theorem inC_lt {M : MM} {q n : Nat} {i : Int32} (hn : n ≤ 40) (k1 : M.1 4 q 1 = nI n) (h : inC M q i = true) : cl i < n := by
  unfold inC at h
  rw [k1] at h
  have h0 : ¬ i < 0 := by
    intro e
    rw [decide_eq_true e] at h
    exact absurd h (by simp)
  have h1 : i < nI n := by
    have := (Bool.and_eq_true_iff.mp h).2
    exact of_decide_eq_true this
  obtain ⟨j, hj, rfl⟩ := nI_of h0
  have := (nI_ltI (by omega) (by omega)).mp h1
  show (nI j).toNatClampNeg < n
  rw [nI_clamp (by omega)]
  exact this
theorem r_put {M N : MM} (r : RR M N) (p i : Int32) (v : Int64) : (x_put M p i v).1 = (m_put N p i v).1 ∧ RR (x_put M p i v).2 (m_put N p i v).2 := by
  unfold x_put m_put
  by_cases h : isPl p = false
  · have e : x_way M p i 0 = -1 := by unfold x_way; rw [if_pos h]
    have d : ¬ (-1 : Int32) = 0 := by decide
    rw [e, if_neg d, if_pos h]; exact ⟨rfl, r⟩
  · have hp := pl_lt h
    have c := r.1 (cl p) hp
    have w := way_eq c h i 0
    rw [if_neg h]
    by_cases h1 : mWay N (cl p) 0 = 0
    · have h1' : ¬ ¬ mWay N (cl p) 0 = 0 := fun g => g h1
      rw [if_neg h1'] at w ⊢
      by_cases h2 : mHas N (cl p) i = false
      · have d : ¬ (-12 : Int32) = 0 := by decide
        rw [if_pos h2] at w
        rw [w, if_neg d, if_pos h2]; exact ⟨rfl, r⟩
      · rw [if_neg h2] at w
        rw [if_pos w, if_neg h2]
        refine ⟨rfl, ?_⟩
        have f := way0 (RR_XOK r) w
        rcases c.2.2 with ⟨g1, _⟩ | ⟨h0, n, hn, g1, g2, g3, g4⟩
        · exact absurd g1 f.2.2.2.1
        · have hi := inC_lt hn g1 f.2.2.2.2.1
          show RR (c_set M (cl p) (cl i) v) _
          unfold c_set
          rw [c.1]
          by_cases k5 : M.1 4 (cl p) 0 = 5
          · rw [if_pos k5, if_pos k5]
            exact RR_setD r hp hn hi g1 (by rw [k5]; decide) (f2d_nn (fdiv8_nn v)) (fun _ => ⟨_, fdiv8_nn v, rfl⟩)
          · rw [if_neg k5, if_neg k5]
            by_cases k6 : M.1 4 (cl p) 0 = 6
            · rw [if_pos k6, if_pos k6]
              exact RR_setD r hp hn hi g1 (by rw [k6]; decide) (ddiv8_nn v) (fun g => absurd g k5)
            · rw [if_neg k6, if_neg k6, mLow_eq]
              refine RR_setL r hp hn hi g1 (by unfold isR; simp only [k5, k6, decide_false, Bool.or_self]) (fun g => ?_)
              exfalso
              have b := f.2.2.1
              unfold b2i at b
              rw [if_pos g] at b
              exact absurd b (by decide)
    · rw [if_pos h1] at w ⊢
      rw [w, if_neg h1]; exact ⟨rfl, r⟩
