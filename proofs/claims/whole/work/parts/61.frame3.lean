theorem kx_copy (M : MM) (f a g b n : Int32) : kX M (x_copy M f a g b n).2 := by
  unfold x_copy
  split
  · exact kP_r _ _
  · split
    · exact kP_I (kP_r _ _) (by decide)
    · split
      · exact kP_I (kP_r _ _) (by decide)
      · split
        · exact kP_I (kP_r _ _) (by decide)
        · split
          · exact kP_I (kP_rD (kP_rL (kP_I (kP_r _ _) (by decide)) (by decide)) (by decide)) (by decide)
          · exact kP_I (kP_rL (kP_I (kP_r _ _) (by decide)) (by decide)) (by decide)
theorem kn_cp (N : MM) (f a g b n : Nat) (bk : Bool) : ∀ k, kN N (m_cp N f a g b n bk k)
  | 0 => kP_r _ _
  | k + 1 => kP_I (kP_D (kP_L (kn_cp N f a g b n bk k) (by decide)) (by decide)) (by decide)
theorem kn_copy (N : MM) (f a g b n : Int32) : kN N (m_copy N f a g b n).2 := by
  unfold m_copy
  split
  · exact kP_r _ _
  · split
    · exact kP_I (kP_r _ _) (by decide)
    · split
      · exact kP_I (kP_r _ _) (by decide)
      · split
        · exact kP_I (kP_r _ _) (by decide)
        · split
          · exact kP_t (kP_I (kP_r _ _) (by decide)) (kn_cp _ _ _ _ _ _ _ _)
          · exact kP_t (kP_I (kP_r _ _) (by decide)) (kn_cp _ _ _ _ _ _ _ _)
