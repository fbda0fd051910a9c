/-! ===== the law's cases ===== -/
theorem RR_s1 {M M1 : MM} (r : RR M M) (k : kX M M1) : RR M (z0 M1) := by
  refine RR_N ⟨?_, ?_, ?_, ?_, ?_, ?_, ?_, ?_, ?_, (k 12 (by decide)).2.1.symm, (k 13 (by decide)).2.2.symm, (k 18 (by decide)).2.2.symm⟩ r
  · rw [sI_k (by decide), (k 8 (by decide)).1]
  · rw [sI_k (by decide), (k 8 (by decide)).1]
  · rw [sI_o (by decide), (k 9 (by decide)).1]
  · rw [sI_o (by decide), (k 10 (by decide)).1]
  · rw [sI_o (by decide), (k 11 (by decide)).1]
  · rw [sI_o (by decide), (k 19 (by decide)).1]
  · rw [sI_o (by decide), (k 20 (by decide)).1]
  · rw [sI_o (by decide), (k 21 (by decide)).1]
  · rw [sI_o (by decide), (k 22 (by decide)).1]
theorem RR_s2 {M1 N : MM} (r : RR M1 N) (k : kN (z0 M1) N) : RR N N := by
  refine RR_X ⟨?_, ?_, ?_, (k 6 (by decide)).2.1.symm, (k 7 (by decide)).2.2.symm⟩ r
  · rw [(k 0 (by decide)).1, sI_o (by decide)]
  · rw [(k 4 (by decide)).1, sI_o (by decide)]
  · rw [(k 5 (by decide)).1, sI_o (by decide)]
/-- one call on both sides, both change the state -/
theorem glue {M M1 K : MM} {a a' : Int32} (r : RR M M) (hk : kX M M1) (hn : kN (z0 M1) K) (h : RR M (z0 M1) → a = a' ∧ RR M1 K) : MOK (z0 M1) ∧ a = a' ∧ RR K K := ⟨RR_MOK (RR_s1 r hk), (h (RR_s1 r hk)).1, RR_s2 (h (RR_s1 r hk)).2 hn⟩
/-- one call that changes nothing -/
theorem glue0 {M : MM} {a a' : Int32} (r : RR M M) (h : RR M (z0 M) → a = a') : MOK (z0 M) ∧ a = a' ∧ RR (z0 M) (z0 M) := ⟨RR_MOK (RR_s1 r (kP_r _ _)), h (RR_s1 r (kP_r _ _)), RR_s2 (RR_s1 r (kP_r _ _)) (kP_r _ _)⟩
abbrev lvI (b i : Nat) : LV := [(0, .inl (.ref b)), (1, .inr (0, 0)), (2, .inr (8, 0)), (3, .inr (23, 0)), (4, .inl (.int (nI i)))]
theorem sv_in {i L : Nat} (h : i + 6 ≤ L) (hL : L ≤ 3072) (k : Nat) (hk : k < 6) : vp_in (nI i + nI k) L := by
  rw [nI_add]
  exact vp_in_nI (by omega) (by omega)
set_option maxHeartbeats 1000000 in
theorem cs_136 {b L i : Nat} {xs : Nat → Int32} {K938 : PT} (hi : i + 6 ≤ L) (hL : L ≤ 3072) {M : MM} (r : RR M M) (hK : ∀ N, RR N N → K938 (lvI b i) [] N) : BL_136 b L xs K938 (lvI b i) [] M := by
  have v1 : vp_in (nI i + 1) L := sv_in hi hL 1 (by decide)
  have v2 : vp_in (nI i + 2) L := sv_in hi hL 2 (by decide)
  have v3 : vp_in (nI i + 3) L := sv_in hi hL 3 (by decide)
  have ok := RR_XOK r
  have g := glue r (kx_make M (xs (nI i + 1).toNatClampNeg) (xs (nI i + 2).toNatClampNeg) (xs (nI i + 3).toNatClampNeg)) (kn_make _ (xs (nI i + 1).toNatClampNeg) (xs (nI i + 2).toNatClampNeg) (xs (nI i + 3).toNatClampNeg)) (fun r => r_make r (xs (nI i + 1).toNatClampNeg) (xs (nI i + 2).toNatClampNeg) (xs (nI i + 3).toNatClampNeg))
  simp only [BL_136, SX2_make, SX3_make, i_push, i_iload, i_aload, i_II, i_cmp, i_callV, i_cut, i_sld, lk, wd, rm1, rm2, pick, popn, catS, pushO, aLV, cond_true, cond_false, Bool.not_true, Bool.not_false, Bool.and_true, Bool.and_false, Bool.true_and, Bool.false_and, eq_self, true_and, and_true, Nat.reduceBEq, Nat.reduceAdd, reduceIte, Nat.reduceEqDiff]
  try simp only [tCnt, eq_self, true_and, and_true, Nat.reduceLeDiff, Nat.reduceEqDiff, v1, v2, v3, ok, g.1]
  first | exact ⟨by decide, fun _ => hK _ g.2.2, fun q => q g.2.1⟩ | exact ⟨by decide, by decide, fun _ => hK _ g.2.2, fun q => q g.2.1⟩ | exact ⟨fun _ => hK _ g.2.2, fun q => q g.2.1⟩
set_option maxHeartbeats 1000000 in
theorem cs_185 {b L i : Nat} {xs : Nat → Int32} {K938 : PT} (hi : i + 6 ≤ L) (hL : L ≤ 3072) {M : MM} (r : RR M M) (hK : ∀ N, RR N N → K938 (lvI b i) [] N) : BL_185 b L xs K938 (lvI b i) [] M := by
  have v1 : vp_in (nI i + 1) L := sv_in hi hL 1 (by decide)
  have ok := RR_XOK r
  have g := glue r (kx_let M (xs (nI i + 1).toNatClampNeg)) (kn_let _ (xs (nI i + 1).toNatClampNeg)) (fun r => r_let r (xs (nI i + 1).toNatClampNeg))
  simp only [BL_185, SX2_let, SX3_let, i_push, i_iload, i_aload, i_II, i_cmp, i_callV, i_cut, i_sld, lk, wd, rm1, rm2, pick, popn, catS, pushO, aLV, cond_true, cond_false, Bool.not_true, Bool.not_false, Bool.and_true, Bool.and_false, Bool.true_and, Bool.false_and, eq_self, true_and, and_true, Nat.reduceBEq, Nat.reduceAdd, reduceIte, Nat.reduceEqDiff]
  try simp only [tCnt, eq_self, true_and, and_true, Nat.reduceLeDiff, Nat.reduceEqDiff, v1, ok, g.1]
  first | exact ⟨by decide, fun _ => hK _ g.2.2, fun q => q g.2.1⟩ | exact ⟨by decide, by decide, fun _ => hK _ g.2.2, fun q => q g.2.1⟩ | exact ⟨fun _ => hK _ g.2.2, fun q => q g.2.1⟩
set_option maxHeartbeats 1000000 in
theorem cs_210 {b L i : Nat} {xs : Nat → Int32} {K938 : PT} (hi : i + 6 ≤ L) (hL : L ≤ 3072) {M : MM} (r : RR M M) (hK : ∀ N, RR N N → K938 (lvI b i) [] N) : BL_210 b L xs K938 (lvI b i) [] M := by
  have v1 : vp_in (nI i + 1) L := sv_in hi hL 1 (by decide)
  have ok := RR_XOK r
  have g := glue r (kx_drop M (xs (nI i + 1).toNatClampNeg)) (kn_drop _ (xs (nI i + 1).toNatClampNeg)) (fun r => r_drop r (xs (nI i + 1).toNatClampNeg))
  simp only [BL_210, SX2_drop, SX3_drop, i_push, i_iload, i_aload, i_II, i_cmp, i_callV, i_cut, i_sld, lk, wd, rm1, rm2, pick, popn, catS, pushO, aLV, cond_true, cond_false, Bool.not_true, Bool.not_false, Bool.and_true, Bool.and_false, Bool.true_and, Bool.false_and, eq_self, true_and, and_true, Nat.reduceBEq, Nat.reduceAdd, reduceIte, Nat.reduceEqDiff]
  try simp only [tCnt, eq_self, true_and, and_true, Nat.reduceLeDiff, Nat.reduceEqDiff, v1, ok, g.1]
  first | exact ⟨by decide, fun _ => hK _ g.2.2, fun q => q g.2.1⟩ | exact ⟨by decide, by decide, fun _ => hK _ g.2.2, fun q => q g.2.1⟩ | exact ⟨fun _ => hK _ g.2.2, fun q => q g.2.1⟩
set_option maxHeartbeats 1000000 in
theorem cs_235 {b L i : Nat} {xs : Nat → Int32} {K938 : PT} (hi : i + 6 ≤ L) (hL : L ≤ 3072) {M : MM} (r : RR M M) (hK : ∀ N, RR N N → K938 (lvI b i) [] N) : BL_235 b L xs K938 (lvI b i) [] M := by
  have v1 : vp_in (nI i + 1) L := sv_in hi hL 1 (by decide)
  have ok := RR_XOK r
  have g := glue0 r (fun r => r_kind r (xs (nI i + 1).toNatClampNeg))
  simp only [BL_235, SX2_kind, SX3_kind, i_push, i_iload, i_aload, i_II, i_cmp, i_callV, i_cut, i_sld, lk, wd, rm1, rm2, pick, popn, catS, pushO, aLV, cond_true, cond_false, Bool.not_true, Bool.not_false, Bool.and_true, Bool.and_false, Bool.true_and, Bool.false_and, eq_self, true_and, and_true, Nat.reduceBEq, Nat.reduceAdd, reduceIte, Nat.reduceEqDiff]
  try simp only [tCnt, eq_self, true_and, and_true, Nat.reduceLeDiff, Nat.reduceEqDiff, v1, ok, g.1]
  first | exact ⟨by decide, fun _ => hK _ g.2.2, fun q => q g.2.1⟩ | exact ⟨by decide, by decide, fun _ => hK _ g.2.2, fun q => q g.2.1⟩ | exact ⟨fun _ => hK _ g.2.2, fun q => q g.2.1⟩
set_option maxHeartbeats 1000000 in
theorem cs_260 {b L i : Nat} {xs : Nat → Int32} {K938 : PT} (hi : i + 6 ≤ L) (hL : L ≤ 3072) {M : MM} (r : RR M M) (hK : ∀ N, RR N N → K938 (lvI b i) [] N) : BL_260 b L xs K938 (lvI b i) [] M := by
  have v1 : vp_in (nI i + 1) L := sv_in hi hL 1 (by decide)
  have ok := RR_XOK r
  have g := glue0 r (fun r => r_length r (xs (nI i + 1).toNatClampNeg))
  simp only [BL_260, SX2_length, SX3_length, i_push, i_iload, i_aload, i_II, i_cmp, i_callV, i_cut, i_sld, lk, wd, rm1, rm2, pick, popn, catS, pushO, aLV, cond_true, cond_false, Bool.not_true, Bool.not_false, Bool.and_true, Bool.and_false, Bool.true_and, Bool.false_and, eq_self, true_and, and_true, Nat.reduceBEq, Nat.reduceAdd, reduceIte, Nat.reduceEqDiff]
  try simp only [tCnt, eq_self, true_and, and_true, Nat.reduceLeDiff, Nat.reduceEqDiff, v1, ok, g.1]
  first | exact ⟨by decide, fun _ => hK _ g.2.2, fun q => q g.2.1⟩ | exact ⟨by decide, by decide, fun _ => hK _ g.2.2, fun q => q g.2.1⟩ | exact ⟨fun _ => hK _ g.2.2, fun q => q g.2.1⟩
set_option maxHeartbeats 1000000 in
theorem cs_285 {b L i : Nat} {xs : Nat → Int32} {K938 : PT} (hi : i + 6 ≤ L) (hL : L ≤ 3072) {M : MM} (r : RR M M) (hK : ∀ N, RR N N → K938 (lvI b i) [] N) : BL_285 b L xs K938 (lvI b i) [] M := by
  have v1 : vp_in (nI i + 1) L := sv_in hi hL 1 (by decide)
  have v2 : vp_in (nI i + 2) L := sv_in hi hL 2 (by decide)
  have v3 : vp_in (nI i + 3) L := sv_in hi hL 3 (by decide)
  have v4 : vp_in (nI i + 4) L := sv_in hi hL 4 (by decide)
  have ok := RR_XOK r
  have g := glue r (kx_put M (xs (nI i + 1).toNatClampNeg) (xs (nI i + 2).toNatClampNeg) (((xs (nI i + 3).toNatClampNeg)).toInt64 <<< ((32 : Int32).toInt64 &&& 63) ||| ((xs (nI i + 4).toNatClampNeg)).toInt64 &&& 4294967295)) (kn_put _ (xs (nI i + 1).toNatClampNeg) (xs (nI i + 2).toNatClampNeg) (((xs (nI i + 3).toNatClampNeg)).toInt64 <<< ((32 : Int32).toInt64 &&& 63) ||| ((xs (nI i + 4).toNatClampNeg)).toInt64 &&& 4294967295)) (fun r => r_put r (xs (nI i + 1).toNatClampNeg) (xs (nI i + 2).toNatClampNeg) (((xs (nI i + 3).toNatClampNeg)).toInt64 <<< ((32 : Int32).toInt64 &&& 63) ||| ((xs (nI i + 4).toNatClampNeg)).toInt64 &&& 4294967295))
  simp only [BL_285, SX2_put, SX3_put, i_push, i_iload, i_aload, i_II, i_LL, i_lshl, i_I, i_cmp, i_callV, i_cut, i_sld, lk, wd, rm1, rm2, pick, popn, catS, pushO, aLV, cond_true, cond_false, Bool.not_true, Bool.not_false, Bool.and_true, Bool.and_false, Bool.true_and, Bool.false_and, eq_self, true_and, and_true, Nat.reduceBEq, Nat.reduceAdd, reduceIte, Nat.reduceEqDiff]
  try simp only [tCnt, eq_self, true_and, and_true, Nat.reduceLeDiff, Nat.reduceEqDiff, v1, v2, v3, v4, ok, g.1]
  first | exact ⟨by decide, fun _ => hK _ g.2.2, fun q => q g.2.1⟩ | exact ⟨by decide, by decide, fun _ => hK _ g.2.2, fun q => q g.2.1⟩ | exact ⟨fun _ => hK _ g.2.2, fun q => q g.2.1⟩
set_option maxHeartbeats 1000000 in
theorem cs_433 {b L i : Nat} {xs : Nat → Int32} {K938 : PT} (hi : i + 6 ≤ L) (hL : L ≤ 3072) {M : MM} (r : RR M M) (hK : ∀ N, RR N N → K938 (lvI b i) [] N) : BL_433 b L xs K938 (lvI b i) [] M := by
  have v1 : vp_in (nI i + 1) L := sv_in hi hL 1 (by decide)
  have v2 : vp_in (nI i + 2) L := sv_in hi hL 2 (by decide)
  have ok := RR_XOK r
  have g := glue0 r (fun r => r_sum r (xs (nI i + 1).toNatClampNeg) (xs (nI i + 2).toNatClampNeg))
  simp only [BL_433, SX2_sum, SX3_sum, i_push, i_iload, i_aload, i_II, i_cmp, i_callV, i_cut, i_sld, lk, wd, rm1, rm2, pick, popn, catS, pushO, aLV, cond_true, cond_false, Bool.not_true, Bool.not_false, Bool.and_true, Bool.and_false, Bool.true_and, Bool.false_and, eq_self, true_and, and_true, Nat.reduceBEq, Nat.reduceAdd, reduceIte, Nat.reduceEqDiff]
  try simp only [tCnt, eq_self, true_and, and_true, Nat.reduceLeDiff, Nat.reduceEqDiff, v1, v2, ok, g.1]
  first | exact ⟨by decide, fun _ => hK _ g.2.2, fun q => q g.2.1⟩ | exact ⟨by decide, by decide, fun _ => hK _ g.2.2, fun q => q g.2.1⟩ | exact ⟨fun _ => hK _ g.2.2, fun q => q g.2.1⟩
set_option maxHeartbeats 1000000 in
theorem cs_470 {b L i : Nat} {xs : Nat → Int32} {K938 : PT} (hi : i + 6 ≤ L) (hL : L ≤ 3072) {M : MM} (r : RR M M) (hK : ∀ N, RR N N → K938 (lvI b i) [] N) : BL_470 b L xs K938 (lvI b i) [] M := by
  have v1 : vp_in (nI i + 1) L := sv_in hi hL 1 (by decide)
  have v2 : vp_in (nI i + 2) L := sv_in hi hL 2 (by decide)
  have ok := RR_XOK r
  have g := glue r (kx_turn M (xs (nI i + 1).toNatClampNeg) (xs (nI i + 2).toNatClampNeg)) (kn_turn _ (xs (nI i + 1).toNatClampNeg) (xs (nI i + 2).toNatClampNeg)) (fun r => r_turn r (xs (nI i + 1).toNatClampNeg) (xs (nI i + 2).toNatClampNeg))
  simp only [BL_470, SX2_turn, SX3_turn, i_push, i_iload, i_aload, i_II, i_cmp, i_callV, i_cut, i_sld, lk, wd, rm1, rm2, pick, popn, catS, pushO, aLV, cond_true, cond_false, Bool.not_true, Bool.not_false, Bool.and_true, Bool.and_false, Bool.true_and, Bool.false_and, eq_self, true_and, and_true, Nat.reduceBEq, Nat.reduceAdd, reduceIte, Nat.reduceEqDiff]
  try simp only [tCnt, eq_self, true_and, and_true, Nat.reduceLeDiff, Nat.reduceEqDiff, v1, v2, ok, g.1]
  first | exact ⟨by decide, fun _ => hK _ g.2.2, fun q => q g.2.1⟩ | exact ⟨by decide, by decide, fun _ => hK _ g.2.2, fun q => q g.2.1⟩ | exact ⟨fun _ => hK _ g.2.2, fun q => q g.2.1⟩
set_option maxHeartbeats 1000000 in
theorem cs_507 {b L i : Nat} {xs : Nat → Int32} {K938 : PT} (hi : i + 6 ≤ L) (hL : L ≤ 3072) {M : MM} (r : RR M M) (hK : ∀ N, RR N N → K938 (lvI b i) [] N) : BL_507 b L xs K938 (lvI b i) [] M := by
  have v1 : vp_in (nI i + 1) L := sv_in hi hL 1 (by decide)
  have v2 : vp_in (nI i + 2) L := sv_in hi hL 2 (by decide)
  have ok := RR_XOK r
  have g := glue r (kx_part M (xs (nI i + 1).toNatClampNeg) (xs (nI i + 2).toNatClampNeg)) (kn_part _ (xs (nI i + 1).toNatClampNeg) (xs (nI i + 2).toNatClampNeg)) (fun r => r_part r (xs (nI i + 1).toNatClampNeg) (xs (nI i + 2).toNatClampNeg))
  simp only [BL_507, SX2_part, SX3_part, i_push, i_iload, i_aload, i_II, i_cmp, i_callV, i_cut, i_sld, lk, wd, rm1, rm2, pick, popn, catS, pushO, aLV, cond_true, cond_false, Bool.not_true, Bool.not_false, Bool.and_true, Bool.and_false, Bool.true_and, Bool.false_and, eq_self, true_and, and_true, Nat.reduceBEq, Nat.reduceAdd, reduceIte, Nat.reduceEqDiff]
  try simp only [tCnt, eq_self, true_and, and_true, Nat.reduceLeDiff, Nat.reduceEqDiff, v1, v2, ok, g.1]
  first | exact ⟨by decide, fun _ => hK _ g.2.2, fun q => q g.2.1⟩ | exact ⟨by decide, by decide, fun _ => hK _ g.2.2, fun q => q g.2.1⟩ | exact ⟨fun _ => hK _ g.2.2, fun q => q g.2.1⟩
set_option maxHeartbeats 1000000 in
theorem cs_544 {b L i : Nat} {xs : Nat → Int32} {K938 : PT} (hi : i + 6 ≤ L) (hL : L ≤ 3072) {M : MM} (r : RR M M) (hK : ∀ N, RR N N → K938 (lvI b i) [] N) : BL_544 b L xs K938 (lvI b i) [] M := by
  have v1 : vp_in (nI i + 1) L := sv_in hi hL 1 (by decide)
  have v2 : vp_in (nI i + 2) L := sv_in hi hL 2 (by decide)
  have v3 : vp_in (nI i + 3) L := sv_in hi hL 3 (by decide)
  have ok := RR_XOK r
  have g := glue r (kx_lay M (xs (nI i + 1).toNatClampNeg) (xs (nI i + 2).toNatClampNeg) (xs (nI i + 3).toNatClampNeg)) (kn_lay _ (xs (nI i + 1).toNatClampNeg) (xs (nI i + 2).toNatClampNeg) (xs (nI i + 3).toNatClampNeg)) (fun r => r_lay r (xs (nI i + 1).toNatClampNeg) (xs (nI i + 2).toNatClampNeg) (xs (nI i + 3).toNatClampNeg))
  simp only [BL_544, SX2_lay, SX3_lay, i_push, i_iload, i_aload, i_II, i_cmp, i_callV, i_cut, i_sld, lk, wd, rm1, rm2, pick, popn, catS, pushO, aLV, cond_true, cond_false, Bool.not_true, Bool.not_false, Bool.and_true, Bool.and_false, Bool.true_and, Bool.false_and, eq_self, true_and, and_true, Nat.reduceBEq, Nat.reduceAdd, reduceIte, Nat.reduceEqDiff]
  try simp only [tCnt, eq_self, true_and, and_true, Nat.reduceLeDiff, Nat.reduceEqDiff, v1, v2, v3, ok, g.1]
  first | exact ⟨by decide, fun _ => hK _ g.2.2, fun q => q g.2.1⟩ | exact ⟨by decide, by decide, fun _ => hK _ g.2.2, fun q => q g.2.1⟩ | exact ⟨fun _ => hK _ g.2.2, fun q => q g.2.1⟩
set_option maxHeartbeats 1000000 in
theorem cs_593 {b L i : Nat} {xs : Nat → Int32} {K938 : PT} (hi : i + 6 ≤ L) (hL : L ≤ 3072) {M : MM} (r : RR M M) (hK : ∀ N, RR N N → K938 (lvI b i) [] N) : BL_593 b L xs K938 (lvI b i) [] M := by
  have v1 : vp_in (nI i + 1) L := sv_in hi hL 1 (by decide)
  have v2 : vp_in (nI i + 2) L := sv_in hi hL 2 (by decide)
  have ok := RR_XOK r
  have g := glue0 r (fun r => r_weigh r (xs (nI i + 1).toNatClampNeg) (xs (nI i + 2).toNatClampNeg))
  simp only [BL_593, SX2_weigh, SX3_weigh, i_push, i_iload, i_aload, i_II, i_cmp, i_callV, i_cut, i_sld, lk, wd, rm1, rm2, pick, popn, catS, pushO, aLV, cond_true, cond_false, Bool.not_true, Bool.not_false, Bool.and_true, Bool.and_false, Bool.true_and, Bool.false_and, eq_self, true_and, and_true, Nat.reduceBEq, Nat.reduceAdd, reduceIte, Nat.reduceEqDiff]
  try simp only [tCnt, eq_self, true_and, and_true, Nat.reduceLeDiff, Nat.reduceEqDiff, v1, v2, ok, g.1]
  first | exact ⟨by decide, fun _ => hK _ g.2.2, fun q => q g.2.1⟩ | exact ⟨by decide, by decide, fun _ => hK _ g.2.2, fun q => q g.2.1⟩ | exact ⟨fun _ => hK _ g.2.2, fun q => q g.2.1⟩
set_option maxHeartbeats 1000000 in
theorem cs_630 {b L i : Nat} {xs : Nat → Int32} {K938 : PT} (hi : i + 6 ≤ L) (hL : L ≤ 3072) {M : MM} (r : RR M M) (hK : ∀ N, RR N N → K938 (lvI b i) [] N) : BL_630 b L xs K938 (lvI b i) [] M := by
  have v1 : vp_in (nI i + 1) L := sv_in hi hL 1 (by decide)
  have v2 : vp_in (nI i + 2) L := sv_in hi hL 2 (by decide)
  have ok := RR_XOK r
  have g := glue0 r (fun r => r_rigid r (xs (nI i + 1).toNatClampNeg) (xs (nI i + 2).toNatClampNeg))
  simp only [BL_630, SX2_rigid, SX3_rigid, i_push, i_iload, i_aload, i_II, i_cmp, i_callV, i_cut, i_sld, lk, wd, rm1, rm2, pick, popn, catS, pushO, aLV, cond_true, cond_false, Bool.not_true, Bool.not_false, Bool.and_true, Bool.and_false, Bool.true_and, Bool.false_and, eq_self, true_and, and_true, Nat.reduceBEq, Nat.reduceAdd, reduceIte, Nat.reduceEqDiff]
  try simp only [tCnt, eq_self, true_and, and_true, Nat.reduceLeDiff, Nat.reduceEqDiff, v1, v2, ok, g.1]
  first | exact ⟨by decide, fun _ => hK _ g.2.2, fun q => q g.2.1⟩ | exact ⟨by decide, by decide, fun _ => hK _ g.2.2, fun q => q g.2.1⟩ | exact ⟨fun _ => hK _ g.2.2, fun q => q g.2.1⟩
set_option maxHeartbeats 1000000 in
theorem cs_667 {b L i : Nat} {xs : Nat → Int32} {K938 : PT} (hi : i + 6 ≤ L) (hL : L ≤ 3072) {M : MM} (r : RR M M) (hK : ∀ N, RR N N → K938 (lvI b i) [] N) : BL_667 b L xs K938 (lvI b i) [] M := by
  have v1 : vp_in (nI i + 1) L := sv_in hi hL 1 (by decide)
  have v2 : vp_in (nI i + 2) L := sv_in hi hL 2 (by decide)
  have ok := RR_XOK r
  have g := glue r (kx_fault M (xs (nI i + 1).toNatClampNeg) (xs (nI i + 2).toNatClampNeg)) (kn_fault _ (xs (nI i + 1).toNatClampNeg) (xs (nI i + 2).toNatClampNeg)) (fun r => r_fault r (xs (nI i + 1).toNatClampNeg) (xs (nI i + 2).toNatClampNeg))
  simp only [BL_667, SX2_fault, SX3_fault, i_push, i_iload, i_aload, i_II, i_cmp, i_callV, i_cut, i_sld, lk, wd, rm1, rm2, pick, popn, catS, pushO, aLV, cond_true, cond_false, Bool.not_true, Bool.not_false, Bool.and_true, Bool.and_false, Bool.true_and, Bool.false_and, eq_self, true_and, and_true, Nat.reduceBEq, Nat.reduceAdd, reduceIte, Nat.reduceEqDiff]
  try simp only [tCnt, eq_self, true_and, and_true, Nat.reduceLeDiff, Nat.reduceEqDiff, v1, v2, ok, g.1]
  first | exact ⟨by decide, fun _ => hK _ g.2.2, fun q => q g.2.1⟩ | exact ⟨by decide, by decide, fun _ => hK _ g.2.2, fun q => q g.2.1⟩ | exact ⟨fun _ => hK _ g.2.2, fun q => q g.2.1⟩
set_option maxHeartbeats 1000000 in
theorem cs_704 {b L i : Nat} {xs : Nat → Int32} {K938 : PT} (hi : i + 6 ≤ L) (hL : L ≤ 3072) {M : MM} (r : RR M M) (hK : ∀ N, RR N N → K938 (lvI b i) [] N) : BL_704 b L xs K938 (lvI b i) [] M := by
  have v1 : vp_in (nI i + 1) L := sv_in hi hL 1 (by decide)
  have v2 : vp_in (nI i + 2) L := sv_in hi hL 2 (by decide)
  have ok := RR_XOK r
  have g := glue0 r (fun r => r_raise r (xs (nI i + 1).toNatClampNeg) (xs (nI i + 2).toNatClampNeg))
  simp only [BL_704, SX2_raise, SX3_raise, i_push, i_iload, i_aload, i_II, i_cmp, i_callV, i_cut, i_sld, lk, wd, rm1, rm2, pick, popn, catS, pushO, aLV, cond_true, cond_false, Bool.not_true, Bool.not_false, Bool.and_true, Bool.and_false, Bool.true_and, Bool.false_and, eq_self, true_and, and_true, Nat.reduceBEq, Nat.reduceAdd, reduceIte, Nat.reduceEqDiff]
  try simp only [tCnt, eq_self, true_and, and_true, Nat.reduceLeDiff, Nat.reduceEqDiff, v1, v2, ok, g.1]
  first | exact ⟨by decide, fun _ => hK _ g.2.2, fun q => q g.2.1⟩ | exact ⟨by decide, by decide, fun _ => hK _ g.2.2, fun q => q g.2.1⟩ | exact ⟨fun _ => hK _ g.2.2, fun q => q g.2.1⟩
set_option maxHeartbeats 1000000 in
theorem cs_741 {b L i : Nat} {xs : Nat → Int32} {K938 : PT} (hi : i + 6 ≤ L) (hL : L ≤ 3072) {M : MM} (r : RR M M) (hK : ∀ N, RR N N → K938 (lvI b i) [] N) : BL_741 b L xs K938 (lvI b i) [] M := by
  have v1 : vp_in (nI i + 1) L := sv_in hi hL 1 (by decide)
  have v2 : vp_in (nI i + 2) L := sv_in hi hL 2 (by decide)
  have v3 : vp_in (nI i + 3) L := sv_in hi hL 3 (by decide)
  have v4 : vp_in (nI i + 4) L := sv_in hi hL 4 (by decide)
  have v5 : vp_in (nI i + 5) L := sv_in hi hL 5 (by decide)
  have ok := RR_XOK r
  have g := glue r (kx_copy M (xs (nI i + 1).toNatClampNeg) (xs (nI i + 2).toNatClampNeg) (xs (nI i + 3).toNatClampNeg) (xs (nI i + 4).toNatClampNeg) (xs (nI i + 5).toNatClampNeg)) (kn_copy _ (xs (nI i + 1).toNatClampNeg) (xs (nI i + 2).toNatClampNeg) (xs (nI i + 3).toNatClampNeg) (xs (nI i + 4).toNatClampNeg) (xs (nI i + 5).toNatClampNeg)) (fun r => r_copy r (xs (nI i + 1).toNatClampNeg) (xs (nI i + 2).toNatClampNeg) (xs (nI i + 3).toNatClampNeg) (xs (nI i + 4).toNatClampNeg) (xs (nI i + 5).toNatClampNeg))
  simp only [BL_741, SX2_copy, SX3_copy, i_push, i_iload, i_aload, i_II, i_cmp, i_callV, i_cut, i_sld, lk, wd, rm1, rm2, pick, popn, catS, pushO, aLV, cond_true, cond_false, Bool.not_true, Bool.not_false, Bool.and_true, Bool.and_false, Bool.true_and, Bool.false_and, eq_self, true_and, and_true, Nat.reduceBEq, Nat.reduceAdd, reduceIte, Nat.reduceEqDiff]
  try simp only [tCnt, eq_self, true_and, and_true, Nat.reduceLeDiff, Nat.reduceEqDiff, v1, v2, v3, v4, v5, ok, g.1]
  first | exact ⟨by decide, fun _ => hK _ g.2.2, fun q => q g.2.1⟩ | exact ⟨by decide, by decide, fun _ => hK _ g.2.2, fun q => q g.2.1⟩ | exact ⟨fun _ => hK _ g.2.2, fun q => q g.2.1⟩
set_option maxHeartbeats 1000000 in
theorem cs_814 {b L i : Nat} {xs : Nat → Int32} {K938 : PT} (hi : i + 6 ≤ L) (hL : L ≤ 3072) {M : MM} (r : RR M M) (hK : ∀ N, RR N N → K938 (lvI b i) [] N) : BL_814 b L xs K938 (lvI b i) [] M := by
  have ok := RR_XOK r
  have g := glue0 (a := M.1 0 0 4) (a' := M.1 8 0 16) r (fun _ => r.2.2.1)
  simp only [BL_814, SX2_copied, SX3_copied, i_aload, i_cmp, i_callV, i_cut, lk, wd, rm1, rm2, pick, popn, catS, pushO, aLV, cond_true, cond_false, Bool.not_true, Bool.not_false, Bool.and_true, Bool.and_false, Bool.true_and, Bool.false_and, eq_self, true_and, and_true, Nat.reduceBEq, Nat.reduceAdd, reduceIte, Nat.reduceEqDiff]
  try simp only [tCnt, eq_self, true_and, and_true, Nat.reduceLeDiff, Nat.reduceEqDiff, ok, g.1]
  first | exact ⟨by decide, fun _ => hK _ g.2.2, fun q => q g.2.1⟩ | exact ⟨by decide, by decide, fun _ => hK _ g.2.2, fun q => q g.2.1⟩ | exact ⟨fun _ => hK _ g.2.2, fun q => q g.2.1⟩
set_option maxHeartbeats 1000000 in
theorem cs_827 {b L i : Nat} {xs : Nat → Int32} {K938 : PT} (hi : i + 6 ≤ L) (hL : L ≤ 3072) {M : MM} (r : RR M M) (hK : ∀ N, RR N N → K938 (lvI b i) [] N) : BL_827 b L xs K938 (lvI b i) [] M := by
  have v1 : vp_in (nI i + 1) L := sv_in hi hL 1 (by decide)
  have v2 : vp_in (nI i + 2) L := sv_in hi hL 2 (by decide)
  have v3 : vp_in (nI i + 3) L := sv_in hi hL 3 (by decide)
  have ok := RR_XOK r
  have g := glue r (kx_move M (xs (nI i + 1).toNatClampNeg) (xs (nI i + 2).toNatClampNeg) (xs (nI i + 3).toNatClampNeg)) (kn_move _ (xs (nI i + 1).toNatClampNeg) (xs (nI i + 2).toNatClampNeg) (xs (nI i + 3).toNatClampNeg)) (fun r => r_move r (xs (nI i + 1).toNatClampNeg) (xs (nI i + 2).toNatClampNeg) (xs (nI i + 3).toNatClampNeg))
  simp only [BL_827, SX2_move, SX3_move, i_push, i_iload, i_aload, i_II, i_cmp, i_callV, i_cut, i_sld, lk, wd, rm1, rm2, pick, popn, catS, pushO, aLV, cond_true, cond_false, Bool.not_true, Bool.not_false, Bool.and_true, Bool.and_false, Bool.true_and, Bool.false_and, eq_self, true_and, and_true, Nat.reduceBEq, Nat.reduceAdd, reduceIte, Nat.reduceEqDiff]
  try simp only [tCnt, eq_self, true_and, and_true, Nat.reduceLeDiff, Nat.reduceEqDiff, v1, v2, v3, ok, g.1]
  first | exact ⟨by decide, fun _ => hK _ g.2.2, fun q => q g.2.1⟩ | exact ⟨by decide, by decide, fun _ => hK _ g.2.2, fun q => q g.2.1⟩ | exact ⟨fun _ => hK _ g.2.2, fun q => q g.2.1⟩
set_option maxHeartbeats 1000000 in
theorem cs_876 {b L i : Nat} {xs : Nat → Int32} {K938 : PT} (hi : i + 6 ≤ L) (hL : L ≤ 3072) {M : MM} (r : RR M M) (hK : ∀ N, RR N N → K938 (lvI b i) [] N) : BL_876 b L xs K938 (lvI b i) [] M := by
  have v1 : vp_in (nI i + 1) L := sv_in hi hL 1 (by decide)
  have v2 : vp_in (nI i + 2) L := sv_in hi hL 2 (by decide)
  have ok := RR_XOK r
  have g := glue0 r (fun r => r_like r (xs (nI i + 1).toNatClampNeg) (xs (nI i + 2).toNatClampNeg))
  simp only [BL_876, SX2_like, SX3_like, i_push, i_iload, i_aload, i_II, i_cmp, i_callV, i_cut, i_sld, lk, wd, rm1, rm2, pick, popn, catS, pushO, aLV, cond_true, cond_false, Bool.not_true, Bool.not_false, Bool.and_true, Bool.and_false, Bool.true_and, Bool.false_and, eq_self, true_and, and_true, Nat.reduceBEq, Nat.reduceAdd, reduceIte, Nat.reduceEqDiff]
  try simp only [tCnt, eq_self, true_and, and_true, Nat.reduceLeDiff, Nat.reduceEqDiff, v1, v2, ok, g.1]
  first | exact ⟨by decide, fun _ => hK _ g.2.2, fun q => q g.2.1⟩ | exact ⟨by decide, by decide, fun _ => hK _ g.2.2, fun q => q g.2.1⟩ | exact ⟨fun _ => hK _ g.2.2, fun q => q g.2.1⟩
set_option maxHeartbeats 1000000 in
theorem cs_913 {b L i : Nat} {xs : Nat → Int32} {K938 : PT} (hi : i + 6 ≤ L) (hL : L ≤ 3072) {M : MM} (r : RR M M) (hK : ∀ N, RR N N → K938 (lvI b i) [] N) : BL_913 b L xs K938 (lvI b i) [] M := by
  have v1 : vp_in (nI i + 1) L := sv_in hi hL 1 (by decide)
  have ok := RR_XOK r
  have g := glue0 r (fun r => r_told r (xs (nI i + 1).toNatClampNeg))
  simp only [BL_913, SX2_told, SX3_told, i_push, i_iload, i_aload, i_II, i_cmp, i_callV, i_cut, i_sld, lk, wd, rm1, rm2, pick, popn, catS, pushO, aLV, cond_true, cond_false, Bool.not_true, Bool.not_false, Bool.and_true, Bool.and_false, Bool.true_and, Bool.false_and, eq_self, true_and, and_true, Nat.reduceBEq, Nat.reduceAdd, reduceIte, Nat.reduceEqDiff]
  try simp only [tCnt, eq_self, true_and, and_true, Nat.reduceLeDiff, Nat.reduceEqDiff, v1, ok, g.1]
  first | exact ⟨by decide, fun _ => hK _ g.2.2, fun q => q g.2.1⟩ | exact ⟨by decide, by decide, fun _ => hK _ g.2.2, fun q => q g.2.1⟩ | exact ⟨fun _ => hK _ g.2.2, fun q => q g.2.1⟩
