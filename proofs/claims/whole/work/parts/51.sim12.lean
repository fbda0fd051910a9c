/-! ===== turn ===== -/
theorem r_turn {M N : MM} (r : RR M N) (p k : Int32) : (x_turn M p k).1 = (m_turn N p k).1 ∧ RR (x_turn M p k).2 (m_turn N p k).2 := by
  unfold x_turn m_turn
  by_cases h : isPl p = false ∨ isKN k = false
  · rw [if_pos h, if_pos h]; exact ⟨rfl, r⟩
  · have hp := pl_lt (fun g => h (.inl g))
    obtain ⟨hk, k0, k7⟩ := kn_r (fun g => h (.inr g))
    have c := r.1 (cl p) hp
    rw [if_neg h, if_neg h]
    have mw : mWay N (cl p) 0 = (if M.1 4 (cl p) 0 = -1 then -11 else if ¬ b2i (¬ M.1 4 (cl p) 0 < 7) = 0 then -13 else if N.1 11 0 (cl p) = 0 then 0 else -11) := by
      unfold mWay; rw [c.1]
    have d11 : ¬ (-11 : Int32) = 0 := by decide
    by_cases e : M.1 4 (cl p) 0 = -1
    · rw [if_pos e] at mw ⊢
      rw [mw, if_pos d11]; exact ⟨rfl, r⟩
    · rw [if_neg e] at mw ⊢
      by_cases h7 : M.1 4 (cl p) 0 < 7
      · have b : b2i (¬ M.1 4 (cl p) 0 < 7) = 0 := by unfold b2i; rw [if_neg (fun g => g h7)]
        have b' : ¬ ¬ b2i (¬ M.1 4 (cl p) 0 < 7) = 0 := fun g => g b
        have h7' : ¬ ¬ M.1 4 (cl p) 0 < 7 := fun g => g h7
        rw [if_neg b'] at mw
        rw [if_neg h7']
        rcases c.2.2 with ⟨g1, g2, g3⟩ | ⟨h0, m, hm, g1, g2, g3, g4⟩
        · rw [if_neg e] at g3
          have d1 : ¬ (1 : Int32) = 0 := by decide
          rw [g3, if_neg d1] at mw
          rw [if_pos g1, mw, if_pos d11]; exact ⟨rfl, r⟩
        · rw [if_pos g3] at mw
          have d : ¬ nI m = -1 := nI_n1 (by omega)
          have d0 : ¬ ¬ (0 : Int32) = 0 := fun g => g rfl
          have c1 : cnt M (cl p) = m := by unfold cnt; rw [g1]; exact nI_clamp (by omega)
          have c2 : mcnt N (cl p) = m := by unfold mcnt; rw [g2]; exact nI_clamp (by omega)
          have fe : fst0 (fun i => mCan N (40 * cl p + i) (N.1 9 0 (cl p)) k) m = fst0 (fun i => xF M (cl p) i k) m := fst0_congr m (fun i hi => can_eq c r.2.2.2.1 g4 hi e h7 hk k0 k7)
          rw [mw, if_neg d0, g1, if_neg d, c1, c2, fe]
          have fl := fst0_le (fun i => xF M (cl p) i k) m
          by_cases x : fst0 (fun i => xF M (cl p) i k) m < m
          · have x' : nI (fst0 (fun i => xF M (cl p) i k) m) < nI m := (nI_ltI (by omega) (by omega)).mpr x
            rw [if_pos x', if_pos x]; exact ⟨rfl, r⟩
          · have x' : ¬ nI (fst0 (fun i => xF M (cl p) i k) m) < nI m := fun g => x ((nI_ltI (by omega) (by omega)).mp g)
            rw [if_neg x', if_neg x]
            exact ⟨rfl, RR_turn r hp hm e h7 g1 hk k0 k7 (fun i hi => fst0_lt (fun i => xF M (cl p) i k) m i (by omega))⟩
      · have b : ¬ b2i (¬ M.1 4 (cl p) 0 < 7) = 0 := by unfold b2i; rw [if_pos h7]; decide
        have d13 : ¬ (-13 : Int32) = 0 := by decide
        rw [if_pos b] at mw
        rw [if_pos h7, mw, if_pos d13]; exact ⟨rfl, r⟩
