/-! ===== copy: the answer ===== -/
theorem live_of {M N : MM} {p : Nat} (c : colR M N p) (e : ¬ M.1 4 p 1 = -1) : ¬ M.1 4 p 0 = -1 ∧ ∃ m, m ≤ 40 ∧ M.1 4 p 1 = nI m ∧ N.1 10 0 p = nI m ∧ N.1 11 0 p = 0 ∧ liveR M N p m := by
  rcases c.2.2 with ⟨e1, _⟩ | ⟨e0, m, hm, e1, e2, e3, e4⟩
  · exact absurd e1 e
  · exact ⟨e0, m, hm, e1, e2, e3, e4⟩
theorem notR {k : Int32} (h : ¬ k < 7) : isR k = false := by
  unfold isR
  have a1 : ¬ k = 5 := by intro e; rw [e] at h; exact h (by decide)
  have a2 : ¬ k = 6 := by intro e; rw [e] at h; exact h (by decide)
  simp only [a1, a2, decide_false, Bool.or_self]
theorem s4_s4 (M : MM) (v w : Int32) : (sI (sI M 0 0 4 v) 0 0 4 w).1 0 = (sI M 0 0 4 w).1 0 := by
  funext i k
  simp only [sI, true_and]
  by_cases h : i = 0 ∧ k = 4
  · rw [if_pos h, if_pos h]
  · rw [if_neg h, if_neg h, if_neg h]
theorem pl_inj {f g : Int32} (hf : isPl f = true) (hg : isPl g = true) (e : cl f = cl g) : f = g := by
  have a : ¬ f < 0 := by
    unfold isPl at hf
    have := (Bool.and_eq_true_iff.mp hf).1
    simpa using this
  have b : ¬ g < 0 := by
    unfold isPl at hg
    have := (Bool.and_eq_true_iff.mp hg).1
    simpa using this
  rw [nI_cl a, nI_cl b, e]
theorem r_copy {M N : MM} (r : RR M N) (f a g b n : Int32) : (x_copy M f a g b n).1 = (m_copy N f a g b n).1 ∧ RR (x_copy M f a g b n).2 (m_copy N f a g b n).2 := by
  unfold x_copy m_copy
  by_cases h : isPl f = false ∨ isPl g = false
  · rw [if_pos h, if_pos h]; exact ⟨rfl, r⟩
  · have hf := pl_lt (fun g => h (.inl g))
    have hg := pl_lt (fun g => h (.inr g))
    have pf : isPl f = true := by simpa using (fun g => h (.inl g) : ¬ isPl f = false)
    have pg : isPl g = true := by simpa using (fun g => h (.inr g) : ¬ isPl g = false)
    have cf := r.1 (cl f) hf
    have cg := r.1 (cl g) hg
    rw [if_neg h, if_neg h]
    simp only [none_eq cf, none_eq cg]
    by_cases e : M.1 4 (cl f) 1 = -1 ∨ M.1 4 (cl g) 1 = -1
    · rw [if_pos e, if_pos e]; exact ⟨rfl, RR_cp r 0⟩
    · rw [if_neg e, if_neg e]
      obtain ⟨f0, nf, hnf, f1, f2, f3, f4⟩ := live_of cf (fun q => e (.inl q))
      obtain ⟨g0, ng, hng, g1, g2, g3, g4⟩ := live_of cg (fun q => e (.inr q))
      rw [cf.1, cg.1, f2, g2]
      have ek : (¬ (M.1 4 (cl f) 0 < 7 ↔ M.1 4 (cl g) 0 < 7) ∨ M.1 4 (cl f) 0 < 7 ∧ ¬ M.1 4 (cl f) 0 = M.1 4 (cl g) 0) ↔ (¬ M.1 4 (cl f) 0 = M.1 4 (cl g) 0 ∧ (M.1 4 (cl f) 0 < 7 ∨ M.1 4 (cl g) 0 < 7)) := by
        by_cases k : M.1 4 (cl f) 0 = M.1 4 (cl g) 0
        · rw [k]; simp
        · by_cases k1 : M.1 4 (cl f) 0 < 7 <;> by_cases k2 : M.1 4 (cl g) 0 < 7 <;> simp only [k, k1, k2, not_true, not_false_eq_true, true_and, and_true, false_and, or_true, or_false, iff_true, true_iff, iff_self, false_or]
      by_cases e2 : ¬ M.1 4 (cl f) 0 = M.1 4 (cl g) 0 ∧ (M.1 4 (cl f) 0 < 7 ∨ M.1 4 (cl g) 0 < 7)
      · rw [if_pos e2, if_pos (ek.mpr e2)]; exact ⟨rfl, RR_cp r 0⟩
      · rw [if_neg e2, if_neg (fun q => e2 (ek.mp q))]
        have eo : (n < 0 ∨ mRea a n (nI nf) = false ∨ mRea b n (nI ng) = false) ↔ (hC M (cl f) a n = false ∨ hC M (cl g) b n = false) := by
          rw [rea_eq hnf f1, rea_eq hng g1]
          constructor
          · rintro (q | q | q)
            · exact .inl (.inl q)
            · exact .inl (.inr q)
            · exact .inr (.inr q)
          · rintro ((q | q) | (q | q))
            · exact .inl q
            · exact .inr (.inl q)
            · exact .inl q
            · exact .inr (.inr q)
        by_cases e3 : hC M (cl f) a n = false ∨ hC M (cl g) b n = false
        · rw [if_pos e3, if_pos (eo.mpr e3)]; exact ⟨rfl, RR_cp r 0⟩
        · have e3' : ¬ (n < 0 ∨ mRea a n (nI nf) = false ∨ mRea b n (nI ng) = false) := fun q => e3 (eo.mp q)
          rw [if_neg e3, if_neg e3']
          obtain ⟨a', n', ea, en, ha⟩ := mRea_in hnf rfl (fun q => e3' (.inl q)) (by simpa using (fun q => e3' (.inr (.inl q)) : ¬ mRea a n (nI nf) = false))
          obtain ⟨b', n2, eb, en2, hb⟩ := mRea_in hng rfl (fun q => e3' (.inl q)) (by simpa using (fun q => e3' (.inr (.inr q)) : ¬ mRea b n (nI ng) = false))
          have nn : n2 = n' := nI_inj' (by omega) (by omega) (by rw [← en, ← en2])
          subst nn
          subst ea en eb
          have ca : cl (nI a') = a' := nI_clamp (by omega)
          have cb : cl (nI b') = b' := nI_clamp (by omega)
          have cn : cl (nI n2) = n2 := nI_clamp (by omega)
          rw [ca, cb, cn]
          have h1 : cl f = cl g → (decide (f = g ∧ nI a' < nI b') = true ↔ a' < b') := by
            intro q
            rw [decide_eq_true_iff, nI_ltI (by omega) (by omega)]
            exact ⟨fun w => w.2, fun w => ⟨pl_inj pf pg q, w⟩⟩
          by_cases k : M.1 4 (cl f) 0 = M.1 4 (cl g) 0
          · have k' : ¬ (¬ M.1 4 (cl f) 0 < 7 ∧ ¬ M.1 4 (cl f) 0 = M.1 4 (cl g) 0) := fun q => q.2 k
            rw [if_pos k, if_neg k']
            refine ⟨rfl, RR_copy r hf hg hnf hng f1 g1 ha hb (Nat.le_refl _) h1 (.inl rfl) (.inl k) ?_ ?_ ?_ (fun q hq => ?_) (fun q hq => ?_) (fun _ i hi => ?_) (fun _ i hi => ?_) (fun p i => ?_)⟩
            · exact s4_s4 M 0 (nI n2)
            · show (sI (sI M 0 0 4 0) 0 0 4 (nI n2)).1 4 = _
              rw [sI_o (by decide), sI_o (by decide)]
            · show (sI (sI M 0 0 4 0) 0 0 4 (nI n2)).1 5 = _
              rw [sI_o (by decide), sI_o (by decide)]
            · simp only [c_take, rL, rD, sI, hq, and_false, if_false]
            · simp only [c_take, rL, rD, sI, hq, and_false, if_false]
            · simp only [c_take, rL, rD, sI, and_self, if_true, va_cpy]
            · simp only [c_take, rL, rD, sI, and_self, if_true, va_cpy]
            · simp only [c_take, rL, rD, sI, true_and, va_cpy]
              by_cases q : p = cl g
              · rw [if_pos q]
                unfold va_cpy
                by_cases q2 : b' ≤ i ∧ i < b' + n2
                · rw [if_pos q2]; exact r.2.2.2.1.1 _ _
                · rw [if_neg q2]; exact r.2.2.2.1.1 _ _
              · rw [if_neg q]; exact r.2.2.2.1.1 _ _
          · have kf : ¬ M.1 4 (cl f) 0 < 7 := fun q => e2 ⟨k, .inl q⟩
            have kg : ¬ M.1 4 (cl g) 0 < 7 := fun q => e2 ⟨k, .inr q⟩
            have hne : ¬ cl f = cl g := fun q => k (by rw [q])
            have bkf : decide (f = g ∧ nI a' < nI b') = false := decide_eq_false (fun q => hne (by rw [q.1]))
            have back : ∀ x, x < nf → (M.2.1 6 (cl f) x).toInt32.toInt64 = M.2.1 6 (cl f) x ∧ ((M.2.1 6 (cl f) x).toInt32 = -1 ∨ isPt M (M.2.1 6 (cl f) x).toInt32 = true) := by
              intro x hx
              rcases (f4 x hx).2.2.2 kf with q | ⟨j, j1, j2, j3⟩
              · rw [q]; exact ⟨by decide, .inl (by decide)⟩
              · rw [j3, lN_i, nI_64 j1]
                refine ⟨rfl, .inr ?_⟩
                unfold isPt
                rw [decide_eq_true j2, decide_eq_false (nI_pos (by omega))]; rfl
            have eN : fst0 (cpT (sI N 8 0 16 0) (cl f) a' (cl g) b' n2 (decide (f = g ∧ nI a' < nI b')) (M.1 4 (cl g) 0)) n2 = tpN M (cl f) a' (cl g) n2 := by
              unfold tpN
              refine fst0_congr n2 (fun i hi => ?_)
              unfold cpT
              rw [bkf]
              have ej : cpJ false n2 i = i := by unfold cpJ; simp
              rw [ej, show 40 * cl f + a' + i = 40 * cl f + (a' + i) by omega, mcp_src hne (by omega) (show a' + i < 40 by omega) i (by omega)]
              show mTak (sI N 8 0 16 0) (M.1 4 (cl g) 0) (N.2.1 12 0 (40 * cl f + (a' + i))) = _
              rw [(f4 (a' + i) (by omega)).2.1 (notR kf)]
              have et : ∀ v, mTak (sI N 8 0 16 0) (M.1 4 (cl g) 0) v = mTak N (M.1 4 (cl g) 0) v := by
                intro v
                unfold mTak
                rw [sI_o (by decide)]
              have tk := tak_eq r.2.1 (shelf_k cg.2.1 g0 kg) (back (a' + i) (by omega)).2
              rw [(back (a' + i) (by omega)).1] at tk
              rw [et, tk]
              rfl
            have k' : ¬ M.1 4 (cl f) 0 < 7 ∧ ¬ M.1 4 (cl f) 0 = M.1 4 (cl g) 0 := ⟨kf, k⟩
            rw [if_neg k, if_pos k', eN]
            have tl : tpN M (cl f) a' (cl g) n2 ≤ n2 := fst0_le _ _
            refine ⟨?_, RR_copy r hf hg hnf hng f1 g1 ha hb tl h1 (.inr bkf) (.inr ⟨kf, kg⟩) ?_ ?_ ?_ (fun q hq => ?_) (fun q hq => ?_) (fun _ i hi => ?_) (fun q i hi => ?_) (fun p i => ?_)⟩
            · by_cases q : tpN M (cl f) a' (cl g) n2 < n2
              · rw [if_pos q, if_pos ((nI_ltI (by omega) (by omega)).mpr q)]
              · rw [if_neg q, if_neg (fun w => q ((nI_ltI (by omega) (by omega)).mp w))]
            · exact s4_s4 M 0 _
            · show (sI (sI M 0 0 4 0) 0 0 4 _).1 4 = _
              rw [sI_o (by decide), sI_o (by decide)]
            · show (sI (sI M 0 0 4 0) 0 0 4 _).1 5 = _
              rw [sI_o (by decide), sI_o (by decide)]
            · simp only [x_tp, rL, sI, hq, and_false, if_false]
            · simp only [x_tp, rL, sI]
            · simp only [x_tp, rL, sI, and_self, if_true]
              by_cases q2 : b' ≤ i ∧ i < b' + tpN M (cl f) a' (cl g) n2
              · rw [if_pos q2, if_pos q2]; exact (back _ (by omega)).1
              · rw [if_neg q2, if_neg q2]
            · rw [notR kg] at q; exact absurd q (by decide)
            · exact r.2.2.2.1.1 _ _
