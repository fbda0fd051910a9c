/-- k steps of copying, on both sides -/
theorem RR_copy {M N M' : MM} (r : RR M N) {f a g b n k nf ng : Nat} {bk : Bool} (hf : f < 24) (hg : g < 24) (hnf : nf ≤ 40) (hng : ng ≤ 40) (f1 : M.1 4 f 1 = nI nf) (g1 : M.1 4 g 1 = nI ng) (ha : a + n ≤ nf) (hb : b + n ≤ ng) (hk : k ≤ n) (h1 : f = g → (bk = true ↔ a < b)) (hbk : k = n ∨ bk = false)
    (kinds : M.1 4 f 0 = M.1 4 g 0 ∨ ¬ M.1 4 f 0 < 7 ∧ ¬ M.1 4 g 0 < 7)
    (x0 : M'.1 0 = (sI M 0 0 4 (nI k)).1 0) (x4 : M'.1 4 = M.1 4) (x5 : M'.1 5 = M.1 5) (x6 : ∀ q, q ≠ g → M'.2.1 6 q = M.2.1 6 q) (x7 : ∀ q, q ≠ g → M'.2.2 7 q = M.2.2 7 q)
    (w6 : isR (M.1 4 g 0) = false → ∀ i, i < 40 → M'.2.1 6 g i = if b ≤ i ∧ i < b + k then M.2.1 6 f (a + (i - b)) else M.2.1 6 g i)
    (w7 : isR (M.1 4 g 0) = true → ∀ i, i < 40 → M'.2.2 7 g i = if b ≤ i ∧ i < b + k then M.2.2 7 f (a + (i - b)) else M.2.2 7 g i)
    (nn : ∀ p i, FP.Core.val64 (M'.2.2 7 p i) ≠ .nan) : RR M' (m_cp (sI N 8 0 16 0) f a g b n bk k) := by
  have rc := RR_cp r (nI k)
  have cf := r.1 f hf
  have cg := r.1 g hg
  have mL := mcp_L (sI N 8 0 16 0) (f := f) (g := g) bk (show a + n ≤ 40 by omega) (show b + n ≤ 40 by omega) h1 k hk
  have wr : ∀ x, cpW g b n bk k x ↔ 40 * g + b ≤ x ∧ x < 40 * g + b + k := by
    intro x
    unfold cpW
    rcases hbk with e | e
    · subst e
      cases bk
      · simp only [Bool.false_eq_true, false_and, false_or, true_and]
      · simp only [Bool.true_eq_false, false_and, or_false, true_and]
        omega
    · subst e
      simp only [Bool.false_eq_true, false_and, false_or, true_and]
  have mn := mcp_n (sI N 8 0 16 0) f a g b n bk k
  have liveOf : ∀ {p m : Nat}, colR M N p → m ≤ 40 → M.1 4 p 1 = nI m → ¬ M.1 4 p 0 = -1 ∧ N.1 10 0 p = nI m ∧ N.1 11 0 p = 0 ∧ liveR M N p m := by
    intro p m c hm e
    rcases c.2.2 with ⟨e1, _⟩ | ⟨e0, m', hm', e1, e2, e3, e4⟩
    · rw [e] at e1; exact absurd e1 (nI_n1 (by omega))
    · have mm : m = m' := nI_inj' (by omega) (by omega) (by rw [← e, ← e1])
      subst mm
      exact ⟨e0, e2, e3, e4⟩
  obtain ⟨f0, f2, f3, f4⟩ := liveOf cf hnf f1
  obtain ⟨g0, g2, g3, g4⟩ := liveOf cg hng g1
  have t1 : ∀ t, ¬ t = 8 → (m_cp (sI N 8 0 16 0) f a g b n bk k).1 t = (sI N 8 0 16 (nI k)).1 t := by
    intro t ht
    rw [mcp_t _ _ _ _ _ _ _ ht, sI_o ht, sI_o ht]
  have par0 : M'.1 0 0 3 = M.1 0 0 3 := by rw [x0, sI_k (by decide)]
  refine RR_at rc g hg ⟨x0, ?_, fun q hq => ⟨?_, x6 q hq, x7 q hq⟩⟩ ⟨?_, ?_, t1 _ (by decide), t1 _ (by decide), t1 _ (by decide), t1 _ (by decide)⟩ (fun q hq => ⟨?_, ?_, ?_, fun i hi => ?_⟩) ⟨nn, fun i => ?_, fun i => ?_⟩ ?_
  · rw [x5, sI_o (by decide)]
  · rw [x4, sI_o (by decide)]
  · rw [mn.2, sI_k (by decide), sI_k (by decide)]
  · rw [mn.1, sIe, sIe, Int32.zero_add]
  · rw [t1 _ (by decide)]
  · rw [t1 _ (by decide)]
  · rw [t1 _ (by decide)]
  · have e := (mL (40 * q + i)).2 (fun e => by have := (wr _).mp e; omega)
    exact e
  · by_cases e : cpW g b n bk k i
    · rw [((mL i).1 e).2]; exact r.2.2.2.1.2.1 _
    · rw [((mL i).2 e).2]; exact r.2.2.2.1.2.1 _
  · rw [mcp_18]; exact r.2.2.2.1.2.2 _
  · refine ⟨?_, ?_, .inr ⟨?_, ng, hng, ?_, ?_, ?_, fun i hi => ?_⟩⟩
    · rw [t1 _ (by decide), sI_o (by decide), x4]; exact cg.1
    · rw [x4]; exact cg.2.1
    · rw [x4]; exact g0
    · rw [x4]; exact g1
    · rw [t1 _ (by decide), sI_o (by decide)]; exact g2
    · rw [t1 _ (by decide), sI_o (by decide)]; exact g3
    · rw [x4, par0]
      have lg := g4 i hi
      by_cases e : b ≤ i ∧ i < b + k
      · have lf := f4 (a + (i - b)) (by omega)
        obtain ⟨m1, m2⟩ := (mL (40 * g + i)).1 ((wr _).mpr (by omega))
        rw [show 40 * f + a + (40 * g + i - (40 * g + b)) = 40 * f + (a + (i - b)) by omega] at m1 m2
        have kR : isR (M.1 4 f 0) = isR (M.1 4 g 0) := by
          rcases kinds with e | ⟨e1, e2⟩
          · rw [e]
          · have z : ∀ {v : Int32}, ¬ v < 7 → isR v = false := by
              intro v hv
              unfold isR
              have a1 : ¬ v = 5 := by intro e; rw [e] at hv; exact hv (by decide)
              have a2 : ¬ v = 6 := by intro e; rw [e] at hv; exact hv (by decide)
              simp only [a1, a2, decide_false, Bool.or_self]
            rw [z e1, z e2]
        refine ⟨fun hr => ?_, fun hr => ?_, fun k5 => ?_, fun k7 => ?_⟩
        · rw [m2, w7 hr i (by omega), if_pos e]
          exact lf.1 (by rw [kR]; exact hr)
        · rw [m1, w6 hr i (by omega), if_pos e]
          exact lf.2.1 (by rw [kR]; exact hr)
        · rw [w7 (by rw [k5]; decide) i (by omega), if_pos e]
          refine lf.2.2.1 ?_
          rcases kinds with e | ⟨e1, e2⟩
          · rw [e]; exact k5
          · rw [k5] at e2; exact absurd (by decide) e2
        · have hr : isR (M.1 4 g 0) = false := by
            unfold isR
            have a1 : ¬ M.1 4 g 0 = 5 := by intro e; rw [e] at k7; exact k7 (by decide)
            have a2 : ¬ M.1 4 g 0 = 6 := by intro e; rw [e] at k7; exact k7 (by decide)
            simp only [a1, a2, decide_false, Bool.or_self]
          rw [w6 hr i (by omega), if_pos e]
          refine lf.2.2.2 ?_
          rcases kinds with e | ⟨e1, e2⟩
          · rw [e]; exact k7
          · exact e1
      · obtain ⟨m1, m2⟩ := (mL (40 * g + i)).2 (fun h => by have := (wr _).mp h; omega)
        refine ⟨fun hr => ?_, fun hr => ?_, fun k5 => ?_, fun k7 => ?_⟩
        · rw [m2, w7 hr i (by omega), if_neg e]; exact lg.1 hr
        · rw [m1, w6 hr i (by omega), if_neg e]; exact lg.2.1 hr
        · rw [w7 (by rw [k5]; decide) i (by omega), if_neg e]; exact lg.2.2.1 k5
        · have hr : isR (M.1 4 g 0) = false := by
            unfold isR
            have a1 : ¬ M.1 4 g 0 = 5 := by intro e; rw [e] at k7; exact k7 (by decide)
            have a2 : ¬ M.1 4 g 0 = 6 := by intro e; rw [e] at k7; exact k7 (by decide)
            simp only [a1, a2, decide_false, Bool.or_self]
          rw [w6 hr i (by omega), if_neg e]; exact lg.2.2.2 k7
