/-! ===== fault, lay ===== -/
theorem isPt_nI {M : MM} {n : Nat} (hn : n ≤ 40) (h2 : M.1 0 0 3 = nI n) {j : Int32} (h : isPt M j = true) : ∃ a, a < n ∧ j = nI a := by
  unfold isPt at h
  rw [h2] at h
  have h0 : ¬ j < 0 := by
    intro e
    rw [decide_eq_true e] at h
    exact absurd h (by simp)
  have h1 : j < nI n := of_decide_eq_true (Bool.and_eq_true_iff.mp h).2
  obtain ⟨a, ha, rfl⟩ := nI_of h0
  exact ⟨a, (nI_ltI (by omega) (by omega)).mp h1, rfl⟩
theorem r_fault {M N : MM} (r : RR M N) (j c : Int32) : (x_fault M j c).1 = (m_fault N j c).1 ∧ RR (x_fault M j c).2 (m_fault N j c).2 := by
  have pr := r.2.1
  unfold x_fault m_fault
  rw [← pt_in pr]
  obtain ⟨h1, ⟨n, hn, h2⟩, h3⟩ := pr
  simp only [inR_f]
  by_cases h : isPt M j = false ∨ c < -1 ∨ 9 < c
  · rw [if_pos h, if_pos h]; exact ⟨rfl, r⟩
  · rw [if_neg h, if_neg h]
    obtain ⟨a, ha, rfl⟩ := isPt_nI hn h2 (by cases e : isPt M j with | true => rfl | false => exact absurd (.inl e) h)
    have hc : cl (nI a) = a := nI_clamp (by omega)
    rw [hc]
    refine ⟨rfl, RR_par r ⟨sI_o (by decide), rfl⟩ ⟨sI_o (by decide), sI_o (by decide), sI_o (by decide), rfl⟩ (fun j hj g => ?_) ⟨?_, ⟨n, hn, ?_⟩, fun k hk => ⟨?_, fun g => ?_, fun g => ?_⟩⟩ ?_⟩
    · rw [sI_o (by decide)]; exact g
    · rw [sI_o (by decide)]
      show _ = (sI N 22 0 a c).1 8 0 11
      rw [sI_o (by decide)]; exact h1
    · rw [sI_o (by decide)]; exact h2
    · rw [sI_k' (show 2 ≠ 3 by decide)]
      show _ = (sI N 22 0 a c).1 21 0 k
      rw [sI_o (by decide)]; exact (h3 k hk).1
    · rw [sI_o (by decide)] at g
      have f := (h3 k hk).2.1 g
      show (sI M 5 a 3 c).1 5 k 0 = (sI N 22 0 a c).1 19 0 k ∧ (sI M 5 a 3 c).1 5 k 1 = (sI N 22 0 a c).1 20 0 k ∧ (sI M 5 a 3 c).1 5 k 3 = (sI N 22 0 a c).1 22 0 k ∧ _ ∧ _
      rw [sI_k' (show 0 ≠ 3 by decide), sI_k' (show 1 ≠ 3 by decide), sI_o (show ¬ 19 = 22 by decide), sI_o (show ¬ 20 = 22 by decide)]
      by_cases e : k = a
      · subst e
        rw [sIe, sIe]
        exact ⟨f.1, f.2.1, rfl, f.2.2.2.1, fun g => h (.inr (.inl g))⟩
      · rw [sI_q e, sI_k e]
        exact f
    · rw [sI_o (by decide)] at g
      have e : k ≠ a := by
        intro e; subst e
        exact g (by rw [h2]; exact (nI_ltI (by omega) (by omega)).mpr ha)
      show (sI M 5 a 3 c).1 5 k 3 = -1
      rw [sI_q e]
      exact (h3 k hk).2.2 g
    · rw [sI_o (by decide)]
      show _ = (sI N 22 0 a c).1 8 0 16
      rw [sI_o (by decide)]; exact r.2.2.1
theorem RR_laid {M N : MM} (r : RR M N) {a n : Nat} (hn : n ≤ 40) (h2 : M.1 0 0 3 = nI n) (ha : a < n) : RR (sI M 5 a 2 (M.1 5 a 2 + 1)) (sI N 21 0 a (N.1 21 0 a + 1)) := by
  obtain ⟨h1, _, h3⟩ := r.2.1
  refine RR_par r ⟨sI_o (by decide), rfl⟩ ⟨sI_o (by decide), sI_o (by decide), sI_o (by decide), rfl⟩ (fun j hj g => ?_) ⟨?_, ⟨n, hn, ?_⟩, fun k hk => ⟨?_, fun g => ?_, fun g => ?_⟩⟩ ?_
  · rw [sI_o (by decide)]; exact g
  · rw [sI_o (by decide), sI_o (by decide)]; exact h1
  · rw [sI_o (by decide)]; exact h2
  · by_cases e : k = a
    · subst e; rw [sIe, sIe, (h3 k hk).1]
    · rw [sI_q e, sI_k e]; exact (h3 k hk).1
  · rw [sI_o (by decide)] at g
    rw [sI_k' (show 0 ≠ 2 by decide), sI_k' (show 1 ≠ 2 by decide), sI_k' (show 3 ≠ 2 by decide), sI_o (show ¬ 19 = 21 by decide), sI_o (show ¬ 20 = 21 by decide), sI_o (show ¬ 22 = 21 by decide)]
    exact (h3 k hk).2.1 g
  · rw [sI_o (by decide)] at g
    rw [sI_k' (show 3 ≠ 2 by decide)]
    exact (h3 k hk).2.2 g
  · rw [sI_o (by decide), sI_o (by decide)]; exact r.2.2.1
theorem in1 {M N : MM} (h : parR M N) (j : Int32) : (inR j (-1) (N.1 8 0 11 - 1) = false) ↔ (¬ j = -1 ∧ isPt M j = false) := by
  have hp := pt_in h j
  rw [hp, inR_f, inR_f]
  obtain ⟨h1, ⟨n, hn, h2⟩, _⟩ := h
  rw [← h1, h2]
  have u : -1 ≤ (nI n - 1).toInt := by
    cases n with
    | zero => decide
    | succ m => rw [nI_p1, nI_toInt (by omega)]; omega
  simp only [Int32.lt_iff_toInt_lt, ← Int32.toInt_inj, show (-1 : Int32).toInt = -1 from rfl, show (0 : Int32).toInt = 0 from rfl]
  omega
theorem tak_eq {M N : MM} (pr : parR M N) {k : Int32} (hk : k = 7 ∨ k = 8 ∨ k = 9) {j : Int32} (hj : j = -1 ∨ isPt M j = true) : mTak N k j.toInt64 = (!isPt M j || forS k (M.1 5 (cl j) 0)) := by
  obtain ⟨h1, ⟨n, hn, h2⟩, h3⟩ := pr
  unfold mTak
  simp only [long_lt0]
  rcases hj with hj | hj
  · subst hj
    have e : isPt M (-1) = false := by unfold isPt; rw [decide_eq_true (show (-1 : Int32) < 0 by decide)]; rfl
    rw [e, decide_eq_true (show (-1 : Int32) < 0 by decide)]; rfl
  · rw [hj]
    obtain ⟨a, ha, rfl⟩ := isPt_nI hn h2 hj
    have hc : cl (nI a) = a := nI_clamp (by omega)
    have hl : ¬ nI a < 0 := nI_pos (by omega)
    rw [Int32.toInt32_toInt64, hc, ← ((h3 a (by omega)).2.1 (by rw [h2]; exact (nI_ltI (by omega) (by omega)).mpr ha)).1, decide_eq_false hl]
    unfold forS
    rcases hk with hk | hk | hk
    · subst hk; simp
    · subst hk
      rw [show (8 : Int32) - 7 = 1 from rfl]
      simp
    · subst hk
      rw [show (9 : Int32) - 7 = 2 from rfl]
      simp
theorem nI_64 {a : Nat} (h : a < 40) : (nI a).toInt64 = lN a := by
  refine Int64.toInt_inj.mp ?_
  rw [Int32.toInt_toInt64, nI_toInt (by omega), lN_toInt (by omega)]
theorem isPt_ne {M : MM} {j : Int32} (h : ¬ isPt M j = false) : isPt M j = true := by simpa using h
theorem shelf_k {k : Int32} (h : KR k) (h0 : ¬ k = -1) (h7 : ¬ k < 7) : k = 7 ∨ k = 8 ∨ k = 9 := by
  rcases h with h | ⟨j, hj, rfl⟩
  · exact absurd h h0
  · have h9 : ¬ j < 7 := fun e => h7 (show nI j < nI 7 from (nI_ltI (by omega) (by omega)).mpr e)
    have h3 : j = 7 ∨ j = 8 ∨ j = 9 := by omega
    rcases h3 with h3 | h3 | h3 <;> subst h3
    · exact .inl rfl
    · exact .inr (.inl rfl)
    · exact .inr (.inr rfl)
theorem r_lay {M N : MM} (r : RR M N) (p i j : Int32) : (x_lay M p i j).1 = (m_lay N p i j).1 ∧ RR (x_lay M p i j).2 (m_lay N p i j).2 := by
  have pr := r.2.1
  unfold x_lay m_lay
  simp only [in1 pr]
  by_cases h : isPl p = false ∨ ¬ j = -1 ∧ isPt M j = false
  · rw [if_pos h, if_pos h]; exact ⟨rfl, r⟩
  · rw [if_neg h, if_neg h]
    have hpl : ¬ isPl p = false := fun g => h (.inl g)
    have hp := pl_lt hpl
    have c := r.1 (cl p) hp
    have w := way_eq c hpl i 1
    by_cases h1 : mWay N (cl p) 1 = 0
    · have h1' : ¬ ¬ mWay N (cl p) 1 = 0 := fun g => g h1
      rw [if_neg h1'] at w ⊢
      by_cases h2 : mHas N (cl p) i = false
      · have d : ¬ (-12 : Int32) = 0 := by decide
        rw [if_pos h2] at w
        rw [w, if_pos d, if_pos h2]; exact ⟨rfl, r⟩
      · rw [if_neg h2] at w
        have w' : ¬ ¬ x_way M p i 1 = 0 := fun g => g w
        rw [if_neg w', if_neg h2]
        have f := way0 (RR_XOK r) w
        have hk7 : ¬ M.1 4 (cl p) 0 < 7 := by
          intro g
          have b := f.2.2.1
          unfold b2i at b
          rw [if_neg (fun e => e g)] at b
          exact absurd b (by decide)
        have hj : j = -1 ∨ isPt M j = true := by
          by_cases e : j = -1
          · exact .inl e
          · exact .inr (isPt_ne fun g => h (.inr ⟨e, g⟩))
        have t : mTak N (N.1 9 0 (cl p)) j.toInt64 = xFor M (cl p) j := by
          rw [c.1]
          exact tak_eq pr (shelf_k c.2.1 f.2.1 hk7) hj
        rw [t]
        by_cases x : xFor M (cl p) j = false
        · rw [if_pos x, if_pos x]; exact ⟨rfl, r⟩
        · rw [if_neg x, if_neg x]
          obtain ⟨p1, ⟨n, hn, p2⟩, p3⟩ := pr
          rcases c.2.2 with ⟨g1, _⟩ | ⟨h0, m, hm, g1, g2, g3, g4⟩
          · exact absurd g1 f.2.2.2.1
          · have hi := inC_lt hm g1 f.2.2.2.2.1
            have hR : isR (M.1 4 (cl p) 0) = false := by
              unfold isR
              have a1 : ¬ M.1 4 (cl p) 0 = 5 := by intro e; rw [e] at hk7; exact hk7 (by decide)
              have a2 : ¬ M.1 4 (cl p) 0 = 6 := by intro e; rw [e] at hk7; exact hk7 (by decide)
              simp only [a1, a2, decide_false, Bool.or_self]
            by_cases e : isPt M j = true
            · obtain ⟨a, ha, rfl⟩ := isPt_nI hn p2 e
              have hl : ¬ nI a < 0 := nI_pos (by omega)
              have hc : cl (nI a) = a := nI_clamp (by omega)
              rw [if_pos e, if_neg hl, hc]
              have q := RR_setL r hp hm hi g1 hR (V := (nI a).toInt64) (fun _ => .inr ⟨a, by omega, by rw [p2]; exact (nI_ltI (by omega) (by omega)).mpr ha, nI_64 (by omega)⟩)
              exact ⟨rfl, RR_laid q hn p2 ha⟩
            · have e1 : j = -1 := by
                rcases hj with hj | hj
                · exact hj
                · exact absurd hj e
              subst e1
              have hl : (-1 : Int32) < 0 := by decide
              rw [if_neg e, if_pos hl]
              exact ⟨rfl, RR_setL r hp hm hi g1 hR (fun _ => .inl (by decide))⟩
    · rw [if_pos h1] at w ⊢
      have w' : ¬ x_way M p i 1 = 0 := by rw [w]; exact h1
      rw [if_pos w', w]; exact ⟨rfl, r⟩
