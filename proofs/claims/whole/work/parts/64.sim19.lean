/-! ===== move: by digit ===== -/
theorem tk_1 (N : MM) (p f t : Nat) : (m_take N p f).1 t = (sI (sI (sI N 9 0 p (N.1 14 0 f)) 10 0 p (N.1 15 0 f)) 11 0 p (vp_nar .boolean (N.1 16 0 f))).1 t := rfl
theorem tk_12 (N : MM) (p f x : Nat) : (m_take N p f).2.1 12 0 x = if 40 * p ≤ x ∧ x < 40 * p + 40 then N.2.1 17 0 (40 * f + (x - 40 * p)) else N.2.1 12 0 x := by
  simp only [m_take, tkF, rL, rD, sI, and_self, if_true]
theorem tk_13 (N : MM) (p f x : Nat) : (m_take N p f).2.2 13 0 x = if 40 * p ≤ x ∧ x < 40 * p + 40 then N.2.2 18 0 (40 * f + (x - 40 * p)) else N.2.2 13 0 x := by
  simp only [m_take, tkF, rL, rD, sI, and_self, if_true]
theorem tk_k (N : MM) (p f : Nat) : kP (fun t => ¬ (9 ≤ t ∧ t ≤ 13)) N (m_take N p f) := kP_rD (kP_rL (kP_I (kP_I (kP_I (kP_r _ _) (by decide)) (by decide)) (by decide)) (by decide)) (by decide)
theorem had_k {M N M' N' : MM} {j : Nat} (h : hadR M N j) (x : M'.1 4 (24 + j) = M.1 4 (24 + j) ∧ M'.2.1 6 (24 + j) = M.2.1 6 (24 + j) ∧ M'.2.2 7 (24 + j) = M.2.2 7 (24 + j)) (x0 : M'.1 0 = M.1 0) (n : kP (fun t => ¬ (9 ≤ t ∧ t ≤ 13)) N N') : hadR M' N' j := by
  unfold hadR at h ⊢
  rw [x.1, x.2.1, x.2.2, x0, (n 14 (by decide)).1, (n 15 (by decide)).1, (n 16 (by decide)).1, (n 17 (by decide)).2.1, (n 18 (by decide)).2.2]
  exact h
theorem r_take {M N : MM} (r : RR M N) {p j : Nat} (hp : p < 24) (h : hadR M N j) : RR (c_like M p (24 + j)) (m_take N p j) := by
  have h' := h
  unfold hadR at h'
  refine RR_at r p hp ⟨lk_t _ _ _ (by decide), lk_t _ _ _ (by decide), fun q hq => lk_o M hq⟩ ⟨?_, ?_, (tk_k N p j 19 (by decide)).1, (tk_k N p j 20 (by decide)).1, (tk_k N p j 21 (by decide)).1, (tk_k N p j 22 (by decide)).1⟩ (fun q hq => ⟨?_, ?_, ?_, fun i hi => ⟨?_, ?_⟩⟩) ⟨lk_nn r.2.2.2.1.1, fun i => ?_, fun i => ?_⟩ ?_
  · rw [(tk_k N p j 8 (by decide)).1]
  · rw [(tk_k N p j 8 (by decide)).1]
  · rw [tk_1, sI_o (by decide), sI_o (by decide), sI_k hq]
  · rw [tk_1, sI_o (by decide), sI_k hq, sI_o (by decide)]
  · rw [tk_1, sI_k hq, sI_o (by decide), sI_o (by decide)]
  · rw [tk_12, if_neg (by omega)]
  · rw [tk_13, if_neg (by omega)]
  · rw [tk_13]
    by_cases e : 40 * p ≤ i ∧ i < 40 * p + 40
    · rw [if_pos e]; exact r.2.2.2.1.2.2 _
    · rw [if_neg e]; exact r.2.2.2.1.2.1 _
  · rw [(tk_k N p j 18 (by decide)).2.2]; exact r.2.2.2.1.2.2 _
  · rw [colR_G, lk_at0, lk_at1, lk_t _ _ _ (by decide), tk_1, tk_1, tk_1, sI_o (show ¬ 9 = 11 by decide), sI_o (show ¬ 9 = 10 by decide), sIe, sI_o (show ¬ 10 = 11 by decide), sIe, sIe, colG_nar h']
    refine colG_c h' (fun i hi => lk_6 _ _ _ hi) (fun i hi => lk_7 _ _ _ hi) (fun i hi => ?_) (fun i hi => ?_)
    · rw [tk_12, if_pos (by omega), show 40 * p + i - 40 * p = i by omega]
    · rw [tk_13, if_pos (by omega), show 40 * p + i - 40 * p = i by omega]
theorem r_end {M N : MM} (r : RR M N) {p : Nat} (hp : p < 24) : RR (sI (sI M 4 p 0 (-1)) 4 p 1 (-1)) (sI (sI (sI N 9 0 p (-1)) 10 0 p 0) 11 0 p 0) := by
  refine RR_at r p hp ⟨by rw [sI_o (by decide), sI_o (by decide)], by rw [sI_o (by decide), sI_o (by decide)], fun q hq => ⟨by rw [sI_q hq, sI_q hq], rfl, rfl⟩⟩ ?_ (fun q hq => ?_) (num_XN r.2.2.2.1 rfl rfl rfl) ?_
  · simp only [sI_o (show ¬ 8 = 9 by decide), sI_o (show ¬ 19 = 9 by decide), sI_o (show ¬ 20 = 9 by decide), sI_o (show ¬ 21 = 9 by decide), sI_o (show ¬ 22 = 9 by decide), sI_o (show ¬ 8 = 11 by decide), sI_o (show ¬ 8 = 10 by decide), sI_o (show ¬ 19 = 11 by decide), sI_o (show ¬ 19 = 10 by decide), sI_o (show ¬ 20 = 11 by decide), sI_o (show ¬ 20 = 10 by decide), sI_o (show ¬ 21 = 11 by decide), sI_o (show ¬ 21 = 10 by decide), sI_o (show ¬ 22 = 11 by decide), sI_o (show ¬ 22 = 10 by decide), and_self]
  · simp only [sI, hq, and_false, false_and, if_false, implies_true, and_self, show ¬ 9 = 11 by decide, show ¬ 9 = 10 by decide, show ¬ 10 = 11 by decide, show ¬ 11 = 10 by decide, show ¬ 10 = 9 by decide, show ¬ 11 = 9 by decide]
  · unfold colR
    rw [sI_k (show 0 ≠ 1 by decide), sIe, sIe, sI_o (show ¬ 9 = 11 by decide), sI_o (show ¬ 9 = 10 by decide), sIe, sI_o (show ¬ 10 = 11 by decide), sIe, sIe]
    exact ⟨rfl, .inl rfl, .inl ⟨rfl, rfl, rfl⟩⟩
/-- one field moved by its digit -/
theorem r_mbd {M N : MM} (r : RR M N) (h : ∀ j, j < 6 → hadR M N j) {p : Nat} (hp : p < 24) {d : Nat} (hd : d < 8) : RR (x_mbd M p (nI d)) (m_md N p (nI d)) ∧ ∀ j, j < 6 → hadR (x_mbd M p (nI d)) (m_md N p (nI d)) j := by
  unfold x_mbd m_md
  by_cases e : d < 6
  · have e1 : nI d < 6 := (nI_ltI (a := d) (b := 6) (by omega) (by omega)).mpr e
    have hc : cl (nI d) = d := nI_clamp (by omega)
    rw [if_pos ⟨nI_pos (by omega), e1⟩, if_pos e1, hc]
    exact ⟨r_take r hp (h d e), fun j hj => had_k (h j hj) (lk_o M (by omega)) (lk_t _ _ _ (by decide)) (tk_k N p d)⟩
  · have e1 : ¬ nI d < 6 := fun q => e ((nI_ltI (a := d) (b := 6) (by omega) (by omega)).mp q)
    have e2 : ¬ (¬ nI d < 0 ∧ nI d < 6) := fun q => e1 q.2
    rw [if_neg e2, if_neg e1]
    by_cases g : nI d = 6
    · rw [if_pos g, if_pos g]
      refine ⟨r_end r hp, fun j hj => had_k (h j hj) ⟨?_, rfl, rfl⟩ ?_ (kP_I (kP_I (kP_I (kP_r _ _) (by decide)) (by decide)) (by decide))⟩
      · rw [sI_q (by omega), sI_q (by omega)]
      · rw [sI_o (by decide), sI_o (by decide)]
    · rw [if_neg g, if_neg g]
      exact ⟨r, h⟩
theorem r_mv {M N : MM} (r : RR M N) (h : ∀ j, j < 6 → hadR M N j) {b : Nat} (hb : b < 4) (q : Int32) : ∀ n, n ≤ 6 → (x_mv M b q n).1 = (m_mv N b q n).1 ∧ RR (x_mv M b q n).2 (m_mv N b q n).2 ∧ ∀ j, j < 6 → hadR (x_mv M b q n).2 (m_mv N b q n).2 j
  | 0, _ => ⟨rfl, r, h⟩
  | n + 1, hn => by
    obtain ⟨e, R, H⟩ := r_mv r h hb q n (by omega)
    have hp : 6 * b + n < 24 := by omega
    obtain ⟨d, hd, ed⟩ := dig_in q n
    obtain ⟨R', H'⟩ := r_mbd R H hp hd
    simp only [x_mv, m_mv]
    rw [ed, e]
    refine ⟨?_, R', H'⟩
    rw [(R'.1 _ hp).1]
theorem mp_lt {a : Int32} (h : ¬ isMp a = false) : cl a < 4 := by
  have h : isMp a = true := by simpa using h
  unfold isMp at h
  have h := Bool.and_eq_true_iff.mp h
  have h0 : ¬ a < 0 := by simpa using h.1
  have h1 : a < 4 := by simpa using h.2
  rw [nI_cl h0] at h1
  obtain ⟨j, hj, rfl⟩ := nI_of h0
  have hc : cl (nI j) = j := nI_clamp hj
  rw [hc] at h1 ⊢
  exact (nI_ltI (a := j) (b := 4) hj (by omega)).mp h1
theorem r_move {M N : MM} (r : RR M N) (a b q : Int32) : (x_move M a b q).1 = (m_move N a b q).1 ∧ RR (x_move M a b q).2 (m_move N a b q).2 := by
  unfold x_move m_move
  simp only [inR_f]
  by_cases h : isMp a = false ∨ isMp b = false ∨ q < 0 ∨ 262143 < q
  · rw [if_pos h, if_pos h]; exact ⟨rfl, r⟩
  · rw [if_neg h, if_neg h]
    obtain ⟨R, H⟩ := r_as r (mp_lt (fun e => h (.inl e))) 6 (Nat.le_refl _)
    obtain ⟨e, R', _⟩ := r_mv R H (mp_lt (fun e => h (.inr (.inl e)))) q 6 (Nat.le_refl _)
    exact ⟨e, R'⟩
