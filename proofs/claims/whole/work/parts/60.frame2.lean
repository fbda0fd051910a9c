/-! ===== each side keeps off the other's ===== -/
def kP (P : Nat → Prop) (M M' : MM) : Prop := ∀ t, P t → M'.1 t = M.1 t ∧ M'.2.1 t = M.2.1 t ∧ M'.2.2 t = M.2.2 t
theorem kP_r (P : Nat → Prop) (M : MM) : kP P M M := fun _ _ => ⟨rfl, rfl, rfl⟩
theorem kP_t {P : Nat → Prop} {A B C : MM} (h : kP P A B) (g : kP P B C) : kP P A C := fun t ht => by
  obtain ⟨a1, a2, a3⟩ := h t ht
  obtain ⟨b1, b2, b3⟩ := g t ht
  exact ⟨by rw [b1, a1], by rw [b2, a2], by rw [b3, a3]⟩
theorem kP_I {P : Nat → Prop} {M M' : MM} (h : kP P M M') {t i k : Nat} {v : Int32} (ht : ¬ P t) : kP P M (sI M' t i k v) := fun t' h' => by
  have e : ¬ t' = t := fun e => ht (e ▸ h')
  rw [sI_o e]
  exact h t' h'
theorem kP_L {P : Nat → Prop} {M M' : MM} (h : kP P M M') {t i k : Nat} {v : Int64} (ht : ¬ P t) : kP P M (sL M' t i k v) := fun t' h' => by
  have e : ¬ t' = t := fun e => ht (e ▸ h')
  have g : (sL M' t i k v).2.1 t' = M'.2.1 t' := by funext i' k'; simp only [sL, e, false_and, if_false]
  rw [g]
  exact h t' h'
theorem kP_D {P : Nat → Prop} {M M' : MM} (h : kP P M M') {t i k : Nat} {v : UInt64} (ht : ¬ P t) : kP P M (sD M' t i k v) := fun t' h' => by
  have e : ¬ t' = t := fun e => ht (e ▸ h')
  have g : (sD M' t i k v).2.2 t' = M'.2.2 t' := by funext i' k'; simp only [sD, e, false_and, if_false]
  rw [g]
  exact h t' h'
theorem kP_rL {P : Nat → Prop} {M M' : MM} (h : kP P M M') {t i : Nat} {f : Nat → Int64} (ht : ¬ P t) : kP P M (rL M' t i f) := fun t' h' => by
  have e : ¬ t' = t := fun e => ht (e ▸ h')
  have g : (rL M' t i f).2.1 t' = M'.2.1 t' := by funext i'; simp only [rL, e, false_and, if_false]
  rw [g]
  exact h t' h'
theorem kP_rD {P : Nat → Prop} {M M' : MM} (h : kP P M M') {t i : Nat} {f : Nat → UInt64} (ht : ¬ P t) : kP P M (rD M' t i f) := fun t' h' => by
  have e : ¬ t' = t := fun e => ht (e ▸ h')
  have g : (rD M' t i f).2.2 t' = M'.2.2 t' := by funext i'; simp only [rD, e, false_and, if_false]
  rw [g]
  exact h t' h'
abbrev kX := kP (fun t => 8 ≤ t)
abbrev kN := kP (fun t => t < 8)
theorem kx_let (M : MM) (p : Int32) : kX M (x_let M p).2 := by
  unfold x_let
  split
  · exact kP_r _ _
  · split
    · exact kP_r _ _
    · exact kP_I (kP_r _ _) (by decide)
theorem kn_let (N : MM) (p : Int32) : kN N (m_let N p).2 := by
  unfold m_let
  split
  · exact kP_r _ _
  · split
    · exact kP_r _ _
    · exact kP_I (kP_I (kP_r _ _) (by decide)) (by decide)
theorem kx_drop (M : MM) (p : Int32) : kX M (x_drop M p).2 := by
  unfold x_drop
  split
  · exact kP_r _ _
  · split
    · exact kP_r _ _
    · exact kP_I (kP_I (kP_r _ _) (by decide)) (by decide)
theorem kn_drop (N : MM) (p : Int32) : kN N (m_drop N p).2 := by
  unfold m_drop
  split
  · exact kP_r _ _
  · exact kP_I (kP_I (kP_I (kP_r _ _) (by decide)) (by decide)) (by decide)
theorem kx_make (M : MM) (p k n : Int32) : kX M (x_make M p k n).2 := by
  unfold x_make
  split
  · exact kP_r _ _
  · split
    · exact kP_r _ _
    · exact kP_rD (kP_rL (kP_I (kP_I (kP_r _ _) (by decide)) (by decide)) (by decide)) (by decide)
theorem kn_make (N : MM) (p k n : Int32) : kN N (m_make N p k n).2 := by
  unfold m_make
  split
  · exact kP_r _ _
  · split
    · exact kP_r _ _
    · exact kP_rD (kP_rL (kP_I (kP_I (kP_I (kP_r _ _) (by decide)) (by decide)) (by decide)) (by decide)) (by decide)
theorem kx_put (M : MM) (p i : Int32) (v : Int64) : kX M (x_put M p i v).2 := by
  unfold x_put
  split
  · show kX M (c_set M (cl p) (cl i) v)
    unfold c_set
    split
    · exact kP_D (kP_r _ _) (by decide)
    · split
      · exact kP_D (kP_r _ _) (by decide)
      · exact kP_L (kP_r _ _) (by decide)
  · exact kP_r _ _
theorem kn_put (N : MM) (p i : Int32) (v : Int64) : kN N (m_put N p i v).2 := by
  unfold m_put
  split
  · exact kP_r _ _
  · split
    · exact kP_r _ _
    · split
      · exact kP_r _ _
      · show kN N (if _ then _ else _)
        split
        · exact kP_D (kP_r _ _) (by decide)
        · split
          · exact kP_D (kP_r _ _) (by decide)
          · exact kP_L (kP_r _ _) (by decide)
theorem kx_part (M : MM) (z w : Int32) : kX M (x_part M z w).2 := by
  unfold x_part
  split
  · exact kP_r _ _
  · split
    · exact kP_r _ _
    · exact kP_I (kP_I (kP_I (kP_r _ _) (by decide)) (by decide)) (by decide)
theorem kn_part (N : MM) (z w : Int32) : kN N (m_part N z w).2 := by
  unfold m_part
  split
  · exact kP_r _ _
  · split
    · exact kP_r _ _
    · exact kP_I (kP_I (kP_I (kP_I (kP_r _ _) (by decide)) (by decide)) (by decide)) (by decide)
theorem kx_fault (M : MM) (j c : Int32) : kX M (x_fault M j c).2 := by
  unfold x_fault
  split
  · exact kP_r _ _
  · exact kP_I (kP_r _ _) (by decide)
theorem kn_fault (N : MM) (j c : Int32) : kN N (m_fault N j c).2 := by
  unfold m_fault
  split
  · exact kP_r _ _
  · exact kP_I (kP_r _ _) (by decide)
theorem kx_lay (M : MM) (p i j : Int32) : kX M (x_lay M p i j).2 := by
  unfold x_lay
  split
  · exact kP_r _ _
  · split
    · exact kP_r _ _
    · split
      · exact kP_r _ _
      · split
        · exact kP_I (kP_L (kP_r _ _) (by decide)) (by decide)
        · exact kP_L (kP_r _ _) (by decide)
theorem kn_lay (N : MM) (p i j : Int32) : kN N (m_lay N p i j).2 := by
  unfold m_lay
  split
  · exact kP_r _ _
  · split
    · exact kP_r _ _
    · split
      · exact kP_r _ _
      · split
        · exact kP_r _ _
        · split
          · exact kP_L (kP_r _ _) (by decide)
          · exact kP_I (kP_L (kP_r _ _) (by decide)) (by decide)
theorem kx_turn (M : MM) (p k : Int32) : kX M (x_turn M p k).2 := by
  unfold x_turn
  split
  · exact kP_r _ _
  · split
    · exact kP_r _ _
    · split
      · exact kP_r _ _
      · split
        · exact kP_r _ _
        · split
          · exact kP_r _ _
          · refine kP_I ?_ (by decide)
            unfold c_turn
            split
            · exact kP_rL (kP_r _ _) (by decide)
            · split
              · exact kP_rD (kP_r _ _) (by decide)
              · exact kP_r _ _
theorem kn_turn (N : MM) (p k : Int32) : kN N (m_turn N p k).2 := by
  unfold m_turn
  split
  · exact kP_r _ _
  · split
    · exact kP_r _ _
    · split
      · exact kP_r _ _
      · refine kP_I ?_ (by decide)
        unfold m_ct
        split
        · exact kP_rD (kP_r _ _) (by decide)
        · split
          · exact kP_rL (kP_r _ _) (by decide)
          · exact kP_r _ _
