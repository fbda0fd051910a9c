/-! ===== the law's case 6: get ===== -/
theorem RR_g {M : MM} (r : RR M M) (a b : Int32) (v : Int32) : RR M (z0 (g_M M a b)) ∧ RR (sI (g_M M a b) 8 0 0 v) (sI (g_M M a b) 8 0 0 v) := by
  have k : kP (fun t => t < 23) M (g_M M a b) := by
    unfold g_M
    split
    · exact kP_L (kP_r _ _) (by decide)
    · exact kP_r _ _
  have h : ∀ w : Int32, RR M (sI (g_M M a b) 8 0 0 w) := by
    intro w
    refine RR_N ⟨?_, ?_, ?_, ?_, ?_, ?_, ?_, ?_, ?_, (k 12 (by decide)).2.1.symm, (k 13 (by decide)).2.2.symm, (k 18 (by decide)).2.2.symm⟩ r
    · rw [sI_k (by decide), (k 8 (by decide)).1]
    · rw [sI_k (by decide), (k 8 (by decide)).1]
    · rw [sI_o (by decide), (k 9 (by decide)).1]
    · rw [sI_o (by decide), (k 10 (by decide)).1]
    · rw [sI_o (by decide), (k 11 (by decide)).1]
    · rw [sI_o (by decide), (k 19 (by decide)).1]
    · rw [sI_o (by decide), (k 20 (by decide)).1]
    · rw [sI_o (by decide), (k 21 (by decide)).1]
    · rw [sI_o (by decide), (k 22 (by decide)).1]
  refine ⟨h 0, RR_X ⟨?_, ?_, ?_, (k 6 (by decide)).2.1.symm, (k 7 (by decide)).2.2.symm⟩ (h v)⟩
  · rw [sI_o (by decide), (k 0 (by decide)).1]
  · rw [sI_o (by decide), (k 4 (by decide)).1]
  · rw [sI_o (by decide), (k 5 (by decide)).1]
set_option maxHeartbeats 1000000 in
theorem cs_383 {b L i : Nat} {xs : Nat → Int32} {K938 : PT} (hi : i + 6 ≤ L) (hL : L ≤ 3072) {M : MM} (r : RR M M) (hK : ∀ N, RR N N → K938 (lvI b i) [] N) : BL_383 b L xs K938 (lvI b i) [.inl (.int (x_gc M (xs (nI i + 1).toNatClampNeg) (xs (nI i + 2).toNatClampNeg)))] (g_M M (xs (nI i + 1).toNatClampNeg) (xs (nI i + 2).toNatClampNeg)) := by
  have v1 : vp_in (nI i + 1) L := sv_in hi hL 1 (by decide)
  have v2 : vp_in (nI i + 2) L := sv_in hi hL 2 (by decide)
  obtain ⟨r1, r2⟩ := RR_g r (xs (nI i + 1).toNatClampNeg) (xs (nI i + 2).toNatClampNeg) (m_gc (z0 (g_M M (xs (nI i + 1).toNatClampNeg) (xs (nI i + 2).toNatClampNeg))) (xs (nI i + 1).toNatClampNeg) (xs (nI i + 2).toNatClampNeg))
  have g := r_get r1 (xs (nI i + 1).toNatClampNeg) (xs (nI i + 2).toNatClampNeg)
  have ok := RR_MOK r1
  simp only [BL_383, SX3_get, SX3_thrown, i_push, i_iload, i_lload, i_aload, i_istore, i_lstore, i_II, i_lcmp, i_if, i_cmp, i_lald, i_callV, i_cut, i_sld, lk, wd, rm1, rm2, pick, popn, catS, pushO, aLV, cond_true, cond_false, Bool.not_true, Bool.not_false, Bool.and_true, Bool.and_false, Bool.true_and, Bool.false_and, eq_self, true_and, and_true, Nat.reduceBEq, Nat.reduceAdd, reduceIte, Nat.reduceEqDiff]
  try simp only [tCnt, eq_self, true_and, and_true, Nat.reduceLeDiff, Nat.reduceEqDiff, v1, v2, ok]
  have e0 : (sI (g_M M (xs (nI i + 1).toNatClampNeg) (xs (nI i + 2).toNatClampNeg)) 8 0 0 (m_gc (z0 (g_M M (xs (nI i + 1).toNatClampNeg) (xs (nI i + 2).toNatClampNeg))) (xs (nI i + 1).toNatClampNeg) (xs (nI i + 2).toNatClampNeg))).1 8 0 0 = x_gc M (xs (nI i + 1).toNatClampNeg) (xs (nI i + 2).toNatClampNeg) := by
    rw [sIe]; exact g.1.symm
  refine ⟨by decide, by decide, fun _ => ⟨fun h0 => ⟨rfl, by decide, (show vp_in (nI 0) 1 from vp_in_nI (by decide) (by decide)), fun _ => hK _ r2, fun q => q ?_⟩, fun _ => hK _ r2⟩, fun q => q e0⟩
  have h1 : m_gc (z0 (g_M M (xs (nI i + 1).toNatClampNeg) (xs (nI i + 2).toNatClampNeg))) (xs (nI i + 1).toNatClampNeg) (xs (nI i + 2).toNatClampNeg) = 0 := by rw [← g.1]; exact h0
  rw [if_pos h1, ← g.2 h0]
  have h2 : (g_M M (xs (nI i + 1).toNatClampNeg) (xs (nI i + 2).toNatClampNeg)).2.1 23 0 0 = xT M (cl (xs (nI i + 1).toNatClampNeg)) (cl (xs (nI i + 2).toNatClampNeg)) := by
    unfold g_M
    rw [if_pos h0]
    simp only [sL, and_self, if_true]
  show lg_cmp ((g_M M (xs (nI i + 1).toNatClampNeg) (xs (nI i + 2).toNatClampNeg)).2.1 23 0 0) _ = 0
  rw [h2]
  exact (lg_cmp_eq _ _).mpr rfl
