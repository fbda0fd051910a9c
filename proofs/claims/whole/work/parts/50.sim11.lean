/-! ===== turn: the state ===== -/
theorem kn_r {k : Int32} (h : ¬ isKN k = false) : KR k ∧ ¬ k = -1 ∧ k < 7 := by
  have h1 : isKN k = true := by simpa using h
  unfold isKN at h1
  have a := Bool.and_eq_true_iff.mp h1
  have h0 : ¬ k < 0 := by simpa using a.1
  have h6 : ¬ 6 < k := by simpa using a.2
  obtain ⟨j, hj, rfl⟩ := nI_of2 (M := 6) (n := 6) (by decide) h0 (Int32.not_lt.mp h6)
  exact ⟨.inr ⟨j, by omega, rfl⟩, nI_n1 (by omega), show nI j < nI 7 from (nI_ltI (by omega) (by omega)).mpr (by omega)⟩
theorem RR_turn {M N : MM} (r : RR M N) {p n : Nat} (hp : p < 24) (hn : n ≤ 40) (h0 : ¬ M.1 4 p 0 = -1) (h7 : M.1 4 p 0 < 7) (g1 : M.1 4 p 1 = nI n) {k : Int32} (hk : KR k) (k0 : ¬ k = -1) (k7 : k < 7) (all : ∀ i, i < n → xF M p i k = true) : RR (sI (c_turn M p n k) 4 p 0 k) (sI (m_ct N p n k) 9 0 p k) := by
  have c := r.1 p hp
  have nm := r.2.2.2.1
  obtain ⟨m, hm, f1, f2, f3, l⟩ : ∃ m, m ≤ 40 ∧ M.1 4 p 1 = nI m ∧ N.1 10 0 p = nI m ∧ N.1 11 0 p = 0 ∧ liveR M N p m := by
    rcases c.2.2 with ⟨e, _⟩ | ⟨_, m, hm, e1, e2, e3, e4⟩
    · rw [g1] at e; exact absurd e (nI_n1 (by omega))
    · exact ⟨m, hm, e1, e2, e3, e4⟩
  have mn : m = n := nI_inj' (by omega) (by omega) (by rw [← f1, ← g1])
  subst mn
  have key : ∀ M' N' : MM, M'.1 = M.1 → N'.1 = N.1 → (∀ q, q ≠ p → M'.2.1 6 q = M.2.1 6 q ∧ M'.2.2 7 q = M.2.2 7 q) → (∀ q, q ≠ p → ∀ i, i < 40 → N'.2.1 12 0 (40 * q + i) = N.2.1 12 0 (40 * q + i) ∧ N'.2.2 13 0 (40 * q + i) = N.2.2 13 0 (40 * q + i)) → numR M' N' →
      (∀ i, i < m → (isR k = true → N'.2.2 13 0 (40 * p + i) = M'.2.2 7 p i) ∧ (isR k = false → N'.2.1 12 0 (40 * p + i) = M'.2.1 6 p i) ∧ (k = 5 → ∃ a, FP.Core.val32 a ≠ .nan ∧ M'.2.2 7 p i = FP.f2d a)) → RR (sI M' 4 p 0 k) (sI N' 9 0 p k) := by
    intro M' N' y1 z1 y z num liv
    refine RR_at r p hp ⟨?_, ?_, fun q hq => ⟨?_, (y q hq).1, (y q hq).2⟩⟩ ⟨?_, ?_, ?_, ?_, ?_, ?_⟩ (fun q hq => ⟨?_, ?_, ?_, fun i hi => z q hq i hi⟩) num ?_
    · rw [sI_o (by decide), y1]
    · rw [sI_o (by decide), y1]
    · rw [sI_q hq, y1]
    · rw [sI_o (by decide), z1]
    · rw [sI_o (by decide), z1]
    · rw [sI_o (by decide), z1]
    · rw [sI_o (by decide), z1]
    · rw [sI_o (by decide), z1]
    · rw [sI_o (by decide), z1]
    · rw [sI_k hq, z1]
    · rw [sI_o (by decide), z1]
    · rw [sI_o (by decide), z1]
    · have e0 : (sI M' 4 p 0 k).1 4 p 0 = k := sIe _ _ _ _ _
      refine ⟨by rw [e0]; exact sIe _ _ _ _ _, by rw [e0]; exact hk, .inr ⟨by rw [e0]; exact k0, m, hm, ?_, ?_, ?_, fun i hi => ?_⟩⟩
      · rw [sI_k (by decide), y1]; exact f1
      · rw [sI_o (by decide), z1]; exact f2
      · rw [sI_o (by decide), z1]; exact f3
      · rw [e0]
        obtain ⟨b1, b2, b3⟩ := liv i hi
        exact ⟨b1, b2, b3, fun g => absurd k7 g⟩
  have zi : ∀ i, i < m → (40 * p ≤ 40 * p + i ∧ 40 * p + i < 40 * p + m) := by intro i hi; omega
  have zo : ∀ q, q ≠ p → ∀ i, i < 40 → ¬ (40 * p ≤ 40 * q + i ∧ 40 * q + i < 40 * p + m) := by intro q hq i hi; omega
  unfold c_turn m_ct
  rw [c.1]
  rcases num_k c.2.1 h0 h7 with ⟨a1, a2⟩ | ⟨a1, a2, a3⟩
  · rcases num_k hk k0 k7 with ⟨b1, b2⟩ | ⟨b1, b2, b3⟩
    · rw [if_neg (fun g => by rw [a2] at g; exact absurd g.1 (by decide)), if_neg (fun g => by rw [b2] at g; exact absurd g.2 (by decide)), if_neg (fun g => g.2 b1), if_neg (fun g => g.1 a1)]
      refine key M N rfl rfl (fun _ _ => ⟨rfl, rfl⟩) (fun _ _ _ _ => ⟨rfl, rfl⟩) nm (fun i hi => ⟨fun g => ?_, fun _ => (l i hi).2.1 a2, fun g => ?_⟩)
      · rw [b2] at g; exact absurd g (by decide)
      · subst g; exact absurd b2 (by decide)
    · rw [if_neg (fun g => by rw [a2] at g; exact absurd g.1 (by decide)), if_pos ⟨by rw [a2]; decide, b2⟩, if_pos ⟨a1, b1⟩]
      refine key _ _ rfl rfl (fun q hq => ⟨rfl, ?_⟩) (fun q hq i hi => ⟨rfl, ?_⟩) ⟨fun q i => ?_, fun i => ?_, fun i => ?_⟩ (fun i hi => ⟨fun _ => ?_, fun g => ?_, fun g => ?_⟩)
      · simp only [rD, hq, and_false, if_false]
      · simp only [rD, and_self, if_true, zo q hq i hi, if_false]
      · simp only [rD, true_and]
        by_cases e : q = p
        · rw [if_pos e]
          by_cases e2 : i < m
          · rw [if_pos e2]; exact l2d_nn _
          · rw [if_neg e2]; exact nm.1 _ _
        · rw [if_neg e]; exact nm.1 _ _
      · simp only [rD, and_self, if_true]
        by_cases e : 40 * p ≤ i ∧ i < 40 * p + m
        · rw [if_pos e]; exact l2d_nn _
        · rw [if_neg e]; exact nm.2.1 _
      · simp only [rD, show ¬ 18 = 13 by decide, false_and, if_false]; exact nm.2.2 _
      · simp only [rD, and_self, if_true, zi i hi, hi]
        rw [(l i hi).2.1 a2]
      · rw [b2] at g; exact absurd g (by decide)
      · simp only [rD, and_self, if_true, hi]
        have e := all i hi
        unfold xF at e
        have a2' : ¬ isR (M.1 4 p 0) = true := by rw [a2]; decide
        rw [if_neg a2', g] at e
        exact fv_w e
  · rcases num_k hk k0 k7 with ⟨b1, b2⟩ | ⟨b1, b2, b3⟩
    · rw [if_pos ⟨a2, by rw [b2]; decide⟩, if_neg (fun g => a1 g.1), if_pos ⟨a1, b1⟩]
      refine key _ _ rfl rfl (fun q hq => ⟨?_, rfl⟩) (fun q hq i hi => ⟨?_, rfl⟩) nm (fun i hi => ⟨fun g => ?_, fun _ => ?_, fun g => ?_⟩)
      · simp only [rL, hq, and_false, if_false]
      · simp only [rL, and_self, if_true, zo q hq i hi, if_false]
      · rw [b2] at g; exact absurd g (by decide)
      · simp only [rL, and_self, if_true, zi i hi, hi]
        rw [(l i hi).1 a2]
      · subst g; exact absurd b2 (by decide)
    · rw [if_neg (fun g => g.2 b2), if_neg (fun g => g.1 a2), if_neg (fun g => a1 g.1), if_neg (fun g => b1 g.2)]
      refine key M N rfl rfl (fun _ _ => ⟨rfl, rfl⟩) (fun _ _ _ _ => ⟨rfl, rfl⟩) nm (fun i hi => ⟨fun _ => (l i hi).1 a2, fun g => ?_, fun g => ?_⟩)
      · rw [b2] at g; exact absurd g (by decide)
      · have e := all i hi
        unfold xF at e
        rw [if_pos a2, g] at e
        exact fv_r (nm.1 p i) e
