theorem kx_as (M : MM) (a : Nat) : ∀ n, kX M (x_as M a n)
  | 0 => kP_r _ _
  | n + 1 => kP_rD (kP_rL (kP_I (kP_I (kx_as M a n) (by decide)) (by decide)) (by decide)) (by decide)
theorem kx_mbd (M : MM) (p : Nat) (d : Int32) : kX M (x_mbd M p d) := by
  unfold x_mbd
  split
  · exact kP_rD (kP_rL (kP_I (kP_I (kP_r _ _) (by decide)) (by decide)) (by decide)) (by decide)
  · split
    · exact kP_I (kP_I (kP_r _ _) (by decide)) (by decide)
    · exact kP_r _ _
theorem kx_mv (M : MM) (b : Nat) (r : Int32) : ∀ n, kX M (x_mv M b r n).2
  | 0 => kP_r _ _
  | n + 1 => kP_t (kx_mv M b r n) (kx_mbd _ _ _)
theorem kx_move (M : MM) (a b r : Int32) : kX M (x_move M a b r).2 := by
  unfold x_move
  split
  · exact kP_r _ _
  · exact kP_t (kx_as _ _ _) (kx_mv _ _ _ _)
theorem kn_sv (N : MM) (a : Nat) : ∀ n, kN N (m_sv N a n)
  | 0 => kP_r _ _
  | n + 1 => kP_rD (kP_rL (kP_I (kP_I (kP_I (kn_sv N a n) (by decide)) (by decide)) (by decide)) (by decide)) (by decide)
theorem kn_md (N : MM) (p : Nat) (d : Int32) : kN N (m_md N p d) := by
  unfold m_md
  split
  · exact kP_rD (kP_rL (kP_I (kP_I (kP_I (kP_r _ _) (by decide)) (by decide)) (by decide)) (by decide)) (by decide)
  · split
    · exact kP_I (kP_I (kP_I (kP_r _ _) (by decide)) (by decide)) (by decide)
    · exact kP_r _ _
theorem kn_mv (N : MM) (b : Nat) (r : Int32) : ∀ n, kN N (m_mv N b r n).2
  | 0 => kP_r _ _
  | n + 1 => kP_t (kn_mv N b r n) (kn_md _ _ _)
theorem kn_move (N : MM) (a b r : Int32) : kN N (m_move N a b r).2 := by
  unfold m_move
  split
  · exact kP_r _ _
  · exact kP_t (kn_sv _ _ _) (kn_mv _ _ _ _)
