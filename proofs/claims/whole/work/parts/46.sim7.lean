/-! ===== weigh, rigid, raise ===== -/
theorem isPt_neg {M : MM} {j : Int32} (h : j < 0) : isPt M j = false := by
  unfold isPt; rw [decide_eq_true h]; rfl
theorem pla_eq {M N : MM} (r : RR M N) (p i : Int32) : (¬ m_wt N p i = 0 ∧ x_pla M p i = m_wt N p i ∧ isPt M (x_pla M p i) = false) ∨ (m_wt N p i = 0 ∧ ∃ a n, n ≤ 40 ∧ M.1 0 0 3 = nI n ∧ a < n ∧ x_pla M p i = nI a ∧ isPt M (nI a) = true ∧ mPN N p i = a) := by
  have neg : ∀ v : Int32, v < 0 → m_wt N p i = v → x_pla M p i = v → (¬ m_wt N p i = 0 ∧ x_pla M p i = m_wt N p i ∧ isPt M (x_pla M p i) = false) := by
    intro v hv e1 e2
    rw [e1, e2]
    refine ⟨fun e => ?_, rfl, isPt_neg hv⟩
    rw [e] at hv
    exact absurd hv (by decide)
  by_cases h : isPl p = false
  · refine .inl (neg (-1) (by decide) ?_ ?_)
    · unfold m_wt; rw [if_pos h]
    · have e : x_way M p i 1 = -1 := by unfold x_way; rw [if_pos h]
      have d : ¬ (-1 : Int32) = 0 := by decide
      unfold x_pla
      rw [e, if_pos d]
  · have hp := pl_lt h
    have c := r.1 (cl p) hp
    have w := way_eq c h i 1
    by_cases h1 : mWay N (cl p) 1 = 0
    · have h1' : ¬ ¬ mWay N (cl p) 1 = 0 := fun g => g h1
      rw [if_neg h1'] at w
      by_cases h2 : mHas N (cl p) i = false
      · have d : ¬ (-12 : Int32) = 0 := by decide
        rw [if_pos h2] at w
        refine .inl (neg (-12) (by decide) ?_ ?_)
        · unfold m_wt; rw [if_neg h, if_neg h1', if_pos h2]
        · unfold x_pla; rw [w, if_pos d]
      · rw [if_neg h2] at w
        have w' : ¬ ¬ x_way M p i 1 = 0 := fun g => g w
        have f := way0 (RR_XOK r) w
        have hk7 : ¬ M.1 4 (cl p) 0 < 7 := by
          intro g
          have b := f.2.2.1
          unfold b2i at b
          rw [if_neg (fun e => e g)] at b
          exact absurd b (by decide)
        obtain ⟨p1, ⟨n, hn, p2⟩, p3⟩ := r.2.1
        rcases c.2.2 with ⟨g1, _⟩ | ⟨h0, m, hm, g1, g2, g3, g4⟩
        · exact absurd g1 f.2.2.2.1
        · have hi := inC_lt hm g1 f.2.2.2.2.1
          have hR : isR (M.1 4 (cl p) 0) = false := by
            unfold isR
            have a1 : ¬ M.1 4 (cl p) 0 = 5 := by intro e; rw [e] at hk7; exact hk7 (by decide)
            have a2 : ¬ M.1 4 (cl p) 0 = 6 := by intro e; rw [e] at hk7; exact hk7 (by decide)
            simp only [a1, a2, decide_false, Bool.or_self]
          obtain ⟨l1, l2, l3, l4⟩ := g4 (cl i) hi
          have l2 := l2 hR
          rcases l4 hk7 with e | ⟨a, a1, a2, a3⟩
          · refine .inl (neg (-11) (by decide) ?_ ?_)
            · have d : lg_cmp (-1) 0 < 0 := by decide
              unfold m_wt; rw [if_neg h, if_neg h1', if_neg h2, l2, e, if_pos d]
            · have d : ¬ isPt M (-1 : Int64).toInt32 = true := by
                rw [isPt_neg (show (-1 : Int64).toInt32 < 0 by decide)]; decide
              unfold x_pla; rw [if_neg w', e, if_neg d]
          · rw [p2] at a2
            have ha := (nI_ltI (by omega) (by omega)).mp a2
            have d : ¬ lg_cmp (lN a) 0 < 0 := by
              rw [← nI_64 a1, long_lt0]; exact nI_pos (by omega)
            have e3 : (lN a).toInt32 = nI a := by rw [← nI_64 a1, Int32.toInt32_toInt64]
            have e4 : isPt M (nI a) = true := by
              unfold isPt
              rw [p2, decide_eq_true ((nI_ltI (by omega) (by omega)).mpr ha), decide_eq_false (nI_pos (by omega))]; rfl
            refine .inr ⟨?_, a, n, hn, p2, ha, ?_, e4, ?_⟩
            · unfold m_wt; rw [if_neg h, if_neg h1', if_neg h2, l2, a3, if_neg d]
            · unfold x_pla; rw [if_neg w', a3, e3, if_pos e4]
            · unfold mPN; rw [l2, a3, e3]; exact nI_clamp (by omega)
    · rw [if_pos h1] at w
      have hv : mWay N (cl p) 1 < 0 := by
        unfold mWay at h1 ⊢
        split
        · decide
        · split
          · decide
          · split
            · rename_i z1 z2 z3
              exfalso; apply h1
              rw [if_neg z1, if_neg z2, if_pos z3]
            · decide
      refine .inl (neg _ hv ?_ ?_)
      · unfold m_wt; rw [if_neg h, if_pos h1]
      · have w' : ¬ x_way M p i 1 = 0 := by rw [w]; exact h1
        unfold x_pla; rw [if_pos w', w]
theorem r_rigid {M N : MM} (r : RR M N) (p i : Int32) : x_rigid M p i = m_rigid N p i := by
  unfold x_rigid m_rigid
  rcases pla_eq r p i with ⟨e1, e2, e3⟩ | ⟨e1, a, n, hn, p2, ha, e2, e3, e4⟩
  · rw [if_pos e3, if_pos e1, e2]
  · have f := (r.2.1.2.2 a (by omega)).2.1 (by rw [p2]; exact (nI_ltI (by omega) (by omega)).mpr ha)
    have e1' : ¬ ¬ m_wt N p i = 0 := fun g => g e1
    have e3' : ¬ isPt M (nI a) = false := by rw [e3]; decide
    have hc : cl (nI a) = a := nI_clamp (by omega)
    rw [e2, if_neg e3', if_neg e1', e4, hc, f.1, (r.2.1.2.2 a (by omega)).1]
theorem r_raise {M N : MM} (r : RR M N) (p i : Int32) : x_raise M p i = m_raise N p i := by
  unfold x_raise m_raise
  rcases pla_eq r p i with ⟨e1, e2, e3⟩ | ⟨e1, a, n, hn, p2, ha, e2, e3, e4⟩
  · rw [if_pos e3, if_pos e1, e2]
  · have f := (r.2.1.2.2 a (by omega)).2.1 (by rw [p2]; exact (nI_ltI (by omega) (by omega)).mpr ha)
    have e1' : ¬ ¬ m_wt N p i = 0 := fun g => g e1
    have e3' : ¬ isPt M (nI a) = false := by rw [e3]; decide
    have hc : cl (nI a) = a := nI_clamp (by omega)
    rw [e2, if_neg e3', if_neg e1', e4, hc, ← f.2.2.1]
    have f5 := f.2.2.2.2
    generalize M.1 5 a 3 = v at f5
    by_cases g : v = -1
    · subst g
      have d : (-1 : Int32) < 0 := by decide
      rw [if_pos rfl, if_pos d]
    · have d : ¬ v < 0 := by
        simp only [Int32.lt_iff_toInt_lt, ← Int32.toInt_inj, show (-1 : Int32).toInt = -1 from rfl, show (0 : Int32).toInt = 0 from rfl] at f5 g ⊢
        omega
      rw [if_neg g, if_neg d]
