/-! ===== weigh, sum, like ===== -/
theorem r_weigh {M N : MM} (r : RR M N) (p i : Int32) : x_weigh M p i = m_weigh N p i := by
  unfold x_weigh m_weigh
  rcases pla_eq r p i with ⟨e1, e2, e3⟩ | ⟨e1, a, n, hn, p2, ha, e2, e3, e4⟩
  · have e3' : ¬ isPt M (x_pla M p i) = true := by rw [e3]; decide
    rw [if_neg e3', if_pos e1, e2]
  · have f := (r.2.1.2.2 a (by omega)).2.1 (by rw [p2]; exact (nI_ltI (by omega) (by omega)).mpr ha)
    have e1' : ¬ ¬ m_wt N p i = 0 := fun g => g e1
    have hc : cl (nI a) = a := nI_clamp (by omega)
    rw [e2, if_pos e3, if_neg e1', e4, hc]
    unfold pW
    rw [← f.1, ← f.2.1, ← (r.2.1.2.2 a (by omega)).1]
    rcases f.2.2.2.1 with g | g | g
    · rw [g, if_neg (by decide), if_neg (by decide), if_pos rfl]
    · rw [g, if_pos rfl, if_neg (by decide), if_pos rfl]
    · rw [g, if_neg (by decide), if_pos rfl, if_neg (by decide), if_neg (by decide)]
theorem tel_eq {M N : MM} {p n i : Nat} (c : colR M N p) (l : liveR M N p n) (hi : i < n) : xT M p i = mTel N p i := by
  obtain ⟨l1, l2, l3, l4⟩ := l i hi
  unfold xT mTel
  rw [c.1]
  by_cases k5 : M.1 4 p 0 = 5
  · have hR : isR (M.1 4 p 0) = true := by rw [k5]; decide
    obtain ⟨a, a1, a2⟩ := l3 k5
    rw [if_pos hR, if_pos k5, l1 hR, a2, tel5 a1]
  · by_cases k6 : M.1 4 p 0 = 6
    · have hR : isR (M.1 4 p 0) = true := by rw [k6]; decide
      rw [if_pos hR, if_neg k5, if_pos k6, l1 hR]
    · have hR : isR (M.1 4 p 0) = false := by unfold isR; simp only [k5, k6, decide_false, Bool.or_self]
      have hR' : ¬ isR (M.1 4 p 0) = true := by rw [hR]; decide
      rw [if_neg hR', if_neg k5, if_neg k6, l2 hR]
theorem bx_congr {f g : Nat → Int32} : ∀ n, (∀ i, i < n → f i = g i) → bx_sum f n = bx_sum g n
  | 0, _ => rfl
  | n + 1, h => by
    have ih := bx_congr n (fun i hi => h i (by omega))
    simp only [bx_sum]
    rw [ih, h n (by omega)]
theorem fst0_congr {f g : Nat → Bool} : ∀ n, (∀ i, i < n → f i = g i) → fst0 f n = fst0 g n
  | 0, _ => rfl
  | n + 1, h => by
    have ih := fst0_congr n (fun i hi => h i (by omega))
    simp only [fst0]
    rw [ih, h n (by omega)]
theorem r_sum {M N : MM} (r : RR M N) (p k : Int32) : x_sum M p k = m_sum N p k := by
  unfold x_sum m_sum
  by_cases h : isPl p = false ∨ isKN k = false
  · rw [if_pos h, if_pos h]
  · have hp := pl_lt (fun g => h (.inl g))
    have c := r.1 (cl p) hp
    rw [if_neg h, if_neg h, c.1]
    by_cases e : M.1 4 (cl p) 0 = -1
    · rw [if_pos e, if_pos e]
    · rw [if_neg e, if_neg e]
      by_cases e2 : ¬ M.1 4 (cl p) 0 = k
      · rw [if_pos e2, if_pos e2]
      · rw [if_neg e2, if_neg e2]
        rcases c.2.2 with ⟨g1, g2, g3⟩ | ⟨h0, m, hm, g1, g2, g3, g4⟩
        · rw [if_neg e] at g3
          have d : ¬ (1 : Int32) = 0 := by decide
          rw [if_pos g1, g3, if_pos d]
        · have d : ¬ nI m = -1 := nI_n1 (by omega)
          have d2 : ¬ ¬ (0 : Int32) = 0 := fun g => g rfl
          have c1 : cnt M (cl p) = m := by unfold cnt; rw [g1]; exact nI_clamp (by omega)
          have c2 : mcnt N (cl p) = m := by unfold mcnt; rw [g2]; exact nI_clamp (by omega)
          rw [g1, if_neg d, g3, if_neg d2, c1, c2]
          exact bx_congr m (fun i hi => by rw [tel_eq c g4 hi])
theorem b2i_congr {P Q : Prop} [Decidable P] [Decidable Q] (h : P ↔ Q) : b2i P = b2i Q := by
  unfold b2i
  by_cases p : P
  · rw [if_pos p, if_pos (h.mp p)]
  · rw [if_neg p, if_neg (fun q => p (h.mpr q))]
theorem r_like {M N : MM} (r : RR M N) (a b : Int32) : x_like M a b = m_like N a b := by
  unfold x_like m_like
  by_cases h : isPl a = false ∨ isPl b = false
  · rw [if_pos h, if_pos h]
  · have ha := pl_lt (fun g => h (.inl g))
    have hb := pl_lt (fun g => h (.inr g))
    have c := r.1 (cl a) ha
    have d := r.1 (cl b) hb
    rw [if_neg h, if_neg h]
    simp only [none_eq c, none_eq d]
    by_cases e : M.1 4 (cl a) 1 = -1 ∨ M.1 4 (cl b) 1 = -1
    · rw [if_pos e, if_pos e]
    · rw [if_neg e, if_neg e]
      rcases c.2.2 with ⟨g1, _⟩ | ⟨h0, m, hm, g1, g2, g3, g4⟩
      · exact absurd (.inl g1) e
      · rcases d.2.2 with ⟨f1, _⟩ | ⟨h0', m', hm', f1, f2, f3, f4⟩
        · exact absurd (.inr f1) e
        · have c1 : cnt M (cl a) = m := by unfold cnt; rw [g1]; exact nI_clamp (by omega)
          have c2 : mcnt N (cl a) = m := by unfold mcnt; rw [g2]; exact nI_clamp (by omega)
          rw [c.1, d.1, g1, g2, f1, f2, c1, c2]
          refine b2i_congr ?_
          refine and_congr_right fun k1 => and_congr_right fun k2 => ?_
          have mm : m = m' := nI_inj' (by omega) (by omega) k2
          subst mm
          rw [fst0_congr (f := xE M (cl a) (cl b)) (g := mE N (cl a) (cl b)) m (fun i hi => ?_)]
          have la := g4 i hi
          have lb := f4 i hi
          unfold xE mE
          rw [c.1]
          cases hR : isR (M.1 4 (cl a) 0) with
          | true =>
            have hR' : isR (M.1 4 (cl b) 0) = true := by rw [← k1]; exact hR
            rw [if_pos rfl, if_pos rfl, la.1 hR, lb.1 hR']
          | false =>
            have hR' : isR (M.1 4 (cl b) 0) = false := by rw [← k1]; exact hR
            rw [if_neg (by decide), if_neg (by decide), la.2.1 hR, lb.2.1 hR']
