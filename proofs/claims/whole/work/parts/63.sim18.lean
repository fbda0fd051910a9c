/-! ===== move ===== -/
def colG (k c : Int32) (u : Nat → Int64) (v : Nat → UInt64) (k' c' g' : Int32) (u' : Nat → Int64) (v' : Nat → UInt64) (np : Int32) : Prop := k' = k ∧ KR k ∧ ((c = -1 ∧ c' = 0 ∧ g' = (if k = -1 then 0 else 1)) ∨ (¬ k = -1 ∧ ∃ n, n ≤ 40 ∧ c = nI n ∧ c' = nI n ∧ g' = 0 ∧ ∀ i, i < n → (isR k = true → v' i = v i) ∧ (isR k = false → u' i = u i) ∧ (k = 5 → ∃ a, FP.Core.val32 a ≠ .nan ∧ v i = FP.f2d a) ∧ (¬ k < 7 → u i = -1 ∨ ∃ j, j < 40 ∧ nI j < np ∧ u i = lN j)))
theorem colR_G (M N : MM) (p : Nat) : colR M N p = colG (M.1 4 p 0) (M.1 4 p 1) (M.2.1 6 p) (M.2.2 7 p) (N.1 9 0 p) (N.1 10 0 p) (N.1 11 0 p) (fun i => N.2.1 12 0 (40 * p + i)) (fun i => N.2.2 13 0 (40 * p + i)) (M.1 0 0 3) := rfl
/-- the column laid aside as field j, on both sides -/
def hadR (M N : MM) (j : Nat) : Prop := colG (M.1 4 (24 + j) 0) (M.1 4 (24 + j) 1) (M.2.1 6 (24 + j)) (M.2.2 7 (24 + j)) (N.1 14 0 j) (N.1 15 0 j) (N.1 16 0 j) (fun i => N.2.1 17 0 (40 * j + i)) (fun i => N.2.2 18 0 (40 * j + i)) (M.1 0 0 3)
theorem colG_c {k c k' c' g' np : Int32} {u w u' w' : Nat → Int64} {v x v' x' : Nat → UInt64} (h : colG k c u v k' c' g' u' v' np) (hu : ∀ i, i < 40 → w i = u i) (hv : ∀ i, i < 40 → x i = v i) (hu' : ∀ i, i < 40 → w' i = u' i) (hv' : ∀ i, i < 40 → x' i = v' i) : colG k c w x k' c' g' w' x' np := by
  obtain ⟨h1, h2, h3⟩ := h
  refine ⟨h1, h2, ?_⟩
  rcases h3 with h3 | ⟨h0, n, hn, e1, e2, e3, e4⟩
  · exact .inl h3
  · refine .inr ⟨h0, n, hn, e1, e2, e3, fun i hi => ?_⟩
    rw [hu i (by omega), hv i (by omega), hu' i (by omega), hv' i (by omega)]
    exact e4 i hi
theorem colG_nar {k c k' c' g' np : Int32} {u u' : Nat → Int64} {v v' : Nat → UInt64} (h : colG k c u v k' c' g' u' v' np) : vp_nar .boolean g' = g' := by
  rcases h.2.2 with ⟨_, _, h3⟩ | ⟨_, n, hn, _, _, h3, _⟩
  · rw [h3]
    by_cases e : k = -1
    · rw [if_pos e]; exact nar0
    · rw [if_neg e]; exact nar1
  · rw [h3]; exact nar0
theorem colG_ok {k c k' c' g' np : Int32} {u u' : Nat → Int64} {v v' : Nat → UInt64} (h : colG k c u v k' c' g' u' v' np) : c = -1 ∨ ∃ n, n ≤ 40 ∧ c = nI n := by
  rcases h.2.2 with ⟨h1, _⟩ | ⟨_, n, hn, h1, _⟩
  · exact .inl h1
  · exact .inr ⟨n, hn, h1⟩
/-- what becoming like another makes of a column -/
theorem lk_at0 (M : MM) (p s : Nat) : (c_like M p s).1 4 p 0 = M.1 4 s 0 := by
  show (sI (sI M 4 p 0 (M.1 4 s 0)) 4 p 1 (M.1 4 s 1)).1 4 p 0 = _
  rw [sI_k (by decide), sIe]
theorem lk_at1 (M : MM) (p s : Nat) : (c_like M p s).1 4 p 1 = M.1 4 s 1 := by
  show (sI (sI M 4 p 0 (M.1 4 s 0)) 4 p 1 (M.1 4 s 1)).1 4 p 1 = _
  rw [sIe]
theorem lk_6 (M : MM) (p s : Nat) {i : Nat} (h : i < 40) : (c_like M p s).2.1 6 p i = M.2.1 6 s i := by
  have h2 : 0 ≤ i ∧ i < 0 + 40 := by omega
  simp only [c_like, c_take, rL, rD, sI, and_self, if_true, va_cpy, h2]
  rw [show 0 + (i - 0) = i by omega]
theorem lk_7 (M : MM) (p s : Nat) {i : Nat} (h : i < 40) : (c_like M p s).2.2 7 p i = M.2.2 7 s i := by
  have h2 : 0 ≤ i ∧ i < 0 + 40 := by omega
  simp only [c_like, c_take, rL, rD, sI, and_self, if_true, va_cpy, h2]
  rw [show 0 + (i - 0) = i by omega]
theorem lk_o (M : MM) {p s q : Nat} (h : q ≠ p) : (c_like M p s).1 4 q = M.1 4 q ∧ (c_like M p s).2.1 6 q = M.2.1 6 q ∧ (c_like M p s).2.2 7 q = M.2.2 7 q := by
  refine ⟨?_, ?_, ?_⟩
  · show (sI (sI M 4 p 0 (M.1 4 s 0)) 4 p 1 (M.1 4 s 1)).1 4 q = _
    rw [sI_q h, sI_q h]
  · simp only [c_like, c_take, rL, rD, sI, h, and_false, if_false]
  · simp only [c_like, c_take, rL, rD, sI, h, and_false, if_false]
theorem lk_t (M : MM) (p s : Nat) {t : Nat} (h : ¬ t = 4) : (c_like M p s).1 t = M.1 t := by
  show (sI (sI M 4 p 0 (M.1 4 s 0)) 4 p 1 (M.1 4 s 1)).1 t = _
  rw [sI_o h, sI_o h]
theorem lk_nn {M : MM} {p s : Nat} (h : ∀ p i, FP.Core.val64 (M.2.2 7 p i) ≠ .nan) (q i : Nat) : FP.Core.val64 ((c_like M p s).2.2 7 q i) ≠ .nan := by
  by_cases e : q = p
  · subst e
    simp only [c_like, c_take, rL, rD, sI, and_self, if_true, va_cpy]
    by_cases h2 : 0 ≤ i ∧ i < 0 + 40
    · rw [if_pos h2]; exact h _ _
    · rw [if_neg h2]; exact h _ _
  · rw [(lk_o M e).2.2]; exact h _ _
theorem RR_as {M N M' N' : MM} (r : RR M N) (x0 : M'.1 0 = M.1 0) (x5 : M'.1 5 = M.1 5) (x4 : ∀ q, q < 24 → M'.1 4 q = M.1 4 q ∧ M'.2.1 6 q = M.2.1 6 q ∧ M'.2.2 7 q = M.2.2 7 q) (n : kP (fun t => ¬ (14 ≤ t ∧ t ≤ 18)) N N') (num : numR M' N') (c : ∀ p, 24 ≤ p → p < 30 → cOK M' p) : RR M' N' := by
  obtain ⟨r1, r2, r3, r4, r5⟩ := r
  refine ⟨fun p hp => ?_, ?_, ?_, num, c⟩
  · have h := r1 p hp
    rw [colR_G] at h ⊢
    obtain ⟨a1, a2, a3⟩ := x4 p hp
    rw [a1, a2, a3, x0, (n 9 (by omega)).1, (n 10 (by omega)).1, (n 11 (by omega)).1, (n 12 (by omega)).2.1, (n 13 (by omega)).2.2]
    exact h
  · unfold parR at r2 ⊢
    rw [x0, x5, (n 8 (by omega)).1, (n 19 (by omega)).1, (n 20 (by omega)).1, (n 21 (by omega)).1, (n 22 (by omega)).1]
    exact r2
  · rw [x0, (n 8 (by omega)).1]; exact r3
theorem sv_k (N : MM) (p f : Nat) : kP (fun t => ¬ (14 ≤ t ∧ t ≤ 18)) N (svF (sv1 N p f) p f 40) := kP_rD (kP_rL (kP_I (kP_I (kP_I (kP_r _ _) (by decide)) (by decide)) (by decide)) (by decide)) (by decide)
theorem sv_14 (N : MM) (p f : Nat) : (svF (sv1 N p f) p f 40).1 14 0 f = N.1 9 0 p := by
  show (sI (sI (sI N 14 0 f (N.1 9 0 p)) 15 0 f (N.1 10 0 p)) 16 0 f (vp_nar .boolean (N.1 11 0 p))).1 14 0 f = _
  rw [sI_o (by decide), sI_o (by decide), sIe]
theorem sv_15 (N : MM) (p f : Nat) : (svF (sv1 N p f) p f 40).1 15 0 f = N.1 10 0 p := by
  show (sI (sI (sI N 14 0 f (N.1 9 0 p)) 15 0 f (N.1 10 0 p)) 16 0 f (vp_nar .boolean (N.1 11 0 p))).1 15 0 f = _
  rw [sI_o (by decide), sIe]
theorem sv_16 (N : MM) (p f : Nat) : (svF (sv1 N p f) p f 40).1 16 0 f = vp_nar .boolean (N.1 11 0 p) := by
  show (sI (sI (sI N 14 0 f (N.1 9 0 p)) 15 0 f (N.1 10 0 p)) 16 0 f (vp_nar .boolean (N.1 11 0 p))).1 16 0 f = _
  rw [sIe]
theorem sv_o (N : MM) {p f j : Nat} (h : j ≠ f) : (svF (sv1 N p f) p f 40).1 14 0 j = N.1 14 0 j ∧ (svF (sv1 N p f) p f 40).1 15 0 j = N.1 15 0 j ∧ (svF (sv1 N p f) p f 40).1 16 0 j = N.1 16 0 j := by
  refine ⟨?_, ?_, ?_⟩
  · show (sI (sI (sI N 14 0 f (N.1 9 0 p)) 15 0 f (N.1 10 0 p)) 16 0 f (vp_nar .boolean (N.1 11 0 p))).1 14 0 j = _
    rw [sI_o (by decide), sI_o (by decide), sI_k h]
  · show (sI (sI (sI N 14 0 f (N.1 9 0 p)) 15 0 f (N.1 10 0 p)) 16 0 f (vp_nar .boolean (N.1 11 0 p))).1 15 0 j = _
    rw [sI_o (by decide), sI_k h, sI_o (by decide)]
  · show (sI (sI (sI N 14 0 f (N.1 9 0 p)) 15 0 f (N.1 10 0 p)) 16 0 f (vp_nar .boolean (N.1 11 0 p))).1 16 0 j = _
    rw [sI_k h, sI_o (by decide), sI_o (by decide)]
theorem sv_17 (N : MM) (p f x : Nat) : (svF (sv1 N p f) p f 40).2.1 17 0 x = if 40 * f ≤ x ∧ x < 40 * f + 40 then N.2.1 12 0 (40 * p + (x - 40 * f)) else N.2.1 17 0 x := by
  simp only [svF, sv1, rL, rD, sI, and_self, if_true]
theorem sv_18 (N : MM) (p f x : Nat) : (svF (sv1 N p f) p f 40).2.2 18 0 x = if 40 * f ≤ x ∧ x < 40 * f + 40 then N.2.2 13 0 (40 * p + (x - 40 * f)) else N.2.2 18 0 x := by
  simp only [svF, sv1, rL, rD, sI, and_self, if_true]
/-- the six columns of a mapping laid aside, on both sides -/
theorem r_as {M N : MM} (r : RR M N) {a : Nat} (ha : a < 4) : ∀ n, n ≤ 6 → RR (x_as M a n) (m_sv N a n) ∧ ∀ j, j < n → hadR (x_as M a n) (m_sv N a n) j
  | 0, _ => ⟨r, fun j hj => absurd hj (Nat.not_lt_zero j)⟩
  | n + 1, hn => by
    obtain ⟨R, H⟩ := r_as r ha n (by omega)
    have hs : 6 * a + n < 24 := by omega
    have c := R.1 _ hs
    have c' := c
    rw [colR_G] at c'
    show RR (c_like (x_as M a n) (24 + n) (6 * a + n)) (svF (sv1 (m_sv N a n) (6 * a + n) n) (6 * a + n) n 40) ∧ ∀ j, j < n + 1 → hadR (c_like (x_as M a n) (24 + n) (6 * a + n)) (svF (sv1 (m_sv N a n) (6 * a + n) n) (6 * a + n) n 40) j
    generalize x_as M a n = X at R H c c' ⊢
    generalize m_sv N a n = Y at R H c c' ⊢
    generalize 6 * a + n = s at hs c c' ⊢
    refine ⟨RR_as R (lk_t _ _ _ (by decide)) (lk_t _ _ _ (by decide)) (fun q hq => lk_o X (by omega)) (sv_k Y s n) ⟨lk_nn R.2.2.2.1.1, fun i => ?_, fun i => ?_⟩ (fun p p1 p2 => ?_), fun j hj => ?_⟩
    · rw [(sv_k Y s n 13 (by decide)).2.2]; exact R.2.2.2.1.2.1 i
    · rw [sv_18]
      by_cases e : 40 * n ≤ i ∧ i < 40 * n + 40
      · rw [if_pos e]; exact R.2.2.2.1.2.1 _
      · rw [if_neg e]; exact R.2.2.2.1.2.2 _
    · by_cases e : p = 24 + n
      · subst e
        unfold cOK
        rw [lk_at1]
        exact colG_ok c'
      · have h := R.2.2.2.2 p p1 p2
        unfold cOK at h ⊢
        rw [(lk_o X e).1]
        exact h
    · by_cases e : j = n
      · subst e
        unfold hadR
        rw [lk_at0, lk_at1, sv_14, sv_15, sv_16, colG_nar c', lk_t _ _ _ (by decide)]
        refine colG_c c' (fun i hi => lk_6 _ _ _ hi) (fun i hi => lk_7 _ _ _ hi) (fun i hi => ?_) (fun i hi => ?_)
        · rw [sv_17, if_pos (by omega), show 40 * j + i - 40 * j = i by omega]
        · rw [sv_18, if_pos (by omega), show 40 * j + i - 40 * j = i by omega]
      · have h := H j (by omega)
        unfold hadR at h ⊢
        obtain ⟨a1, a2, a3⟩ := lk_o X (p := 24 + n) (s := s) (q := 24 + j) (by omega)
        obtain ⟨b1, b2, b3⟩ := sv_o Y (p := s) e
        rw [a1, a2, a3, b1, b2, b3, lk_t _ _ _ (by decide)]
        refine colG_c h (fun _ _ => rfl) (fun _ _ => rfl) (fun i hi => ?_) (fun i hi => ?_)
        · rw [sv_17, if_neg (by omega)]
        · rw [sv_18, if_neg (by omega)]
