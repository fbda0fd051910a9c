theorem ct_1 (M : MM) (p n : Nat) (k : Int32) : (c_turn M p n k).1 = M.1 := by
  unfold c_turn
  split
  · rfl
  · split <;> rfl
theorem ct_0 (M : MM) (p : Nat) (k : Int32) : c_turn M p 0 k = M := by
  unfold c_turn
  split
  · refine MM_ext (fun _ _ _ => rfl) (fun t i j => ?_) (fun _ _ _ => rfl)
    simp only [rL]
    split
    · rename_i h; obtain ⟨rfl, rfl⟩ := h; simp
    · rfl
  · split
    · refine MM_ext (fun _ _ _ => rfl) (fun _ _ _ => rfl) (fun t i j => ?_)
      simp only [rD]
      split
      · rename_i h; obtain ⟨rfl, rfl⟩ := h; simp
      · rfl
    · rfl
theorem ct_sL {M : MM} {p i : Nat} {k : Int32} (h1 : isR (M.1 4 p 0) = true) (h2 : isR k = false) : sL (c_turn M p i k) 6 p i (FP.d2l ((c_turn M p i k).2.2 7 p i)) = c_turn M p (i + 1) k := by
  unfold c_turn
  simp only [h1, h2, Bool.false_eq_true, not_false_eq_true, and_self, if_true]
  refine MM_ext (fun _ _ _ => rfl) (fun t j z => ?_) (fun _ _ _ => rfl)
  simp only [rL, sL]
  by_cases h : t = 6 ∧ j = p
  · obtain ⟨rfl, rfl⟩ := h
    by_cases hz : z = i
    · subst hz; simp
    · simp only [true_and, hz, if_false, and_self, if_true]
      by_cases h3 : z < i
      · rw [if_pos h3, if_pos (by omega)]
      · rw [if_neg h3, if_neg (by omega)]
  · rw [if_neg (fun q => h ⟨q.1, q.2.1⟩), if_neg h, if_neg h]
theorem ct_sD {M : MM} {p i : Nat} {k : Int32} (h1 : isR (M.1 4 p 0) = false) (h2 : isR k = true) : sD (c_turn M p i k) 7 p i (FP.l2d ((c_turn M p i k).2.1 6 p i)) = c_turn M p (i + 1) k := by
  unfold c_turn
  simp only [h1, h2, Bool.false_eq_true, not_false_eq_true, not_true_eq_false, and_self, if_true, if_false]
  refine MM_ext (fun _ _ _ => rfl) (fun _ _ _ => rfl) (fun t j z => ?_)
  simp only [rD, sD]
  by_cases h : t = 7 ∧ j = p
  · obtain ⟨rfl, rfl⟩ := h
    by_cases hz : z = i
    · subst hz; simp
    · simp only [true_and, hz, if_false, and_self, if_true]
      by_cases h3 : z < i
      · rw [if_pos h3, if_pos (by omega)]
      · rw [if_neg h3, if_neg (by omega)]
  · rw [if_neg (fun q => h ⟨q.1, q.2.1⟩), if_neg h, if_neg h]
theorem ct_id {M : MM} {p i : Nat} {k : Int32} (h : isR (M.1 4 p 0) = isR k) : c_turn M p i k = M := by
  unfold c_turn
  rw [h]
  cases isR k <;> simp

def SX0_becomeKind : SP := fun as M post => match as with
  | [.inr (t, p0), .inl (.int k)] => t = 4 ∧ p0 < 30 ∧ cOK M p0 ∧ post none (sI (c_turn M p0 (cnt M p0) k) 4 p0 0 k)
  | _ => False
abbrev rmX0_becomeKind : Room := ({ frames := 2, cells := 0, slots := 0, locals := 120 } : Room)
def BX0_becomeKind_66 (Qr : Option AV → MM → Prop) (K7 : PT) (lv : LV) (st : List AV) (M : MM) : Prop := (i_iinc 3 1 (i_cut [0, 1, 2, 3] K7)) lv st M
set_option maxRecDepth 100000 in
set_option maxHeartbeats 4000000 in
theorem sBX0_becomeKind_66 {p : Program} {l : Launch} {e : Env} {s : State} {m : MethodId} {args : Array Value} {below : List Frame} {meth : Method} {c : Code} {G : Nat → Nat → Nat} {cy dC : Nat → ClassId} {dI : Nat → Nat → Nat} {Qr : Option AV → MM → Prop} {K7 : PT} (F : FX p m c cX0_becomeKind 4 RX0 s args (AW G) G cy dC dI) (hr : meth.sig.returnType = none) (hlk : meth.locks = false) (h7 : SO p l e rmX0_becomeKind s m args below meth c 0 0 (MQ below (QV G cy dC dI Qr) args s 0 0 (AW G)) 4 (AW G) G cy dC dI 7 K7) : SO p l e rmX0_becomeKind s m args below meth c 0 0 (MQ below (QV G cy dC dI Qr) args s 0 0 (AW G)) 4 (AW G) G cy dC dI 66 (BX0_becomeKind_66 Qr K7) := by
  exact (s_iinc F dX0_becomeKind_66 (by decide) (by decide) (s_goto F dX0_becomeKind_69 (by decide) (s_cut [0, 1, 2, 3] h7)))
def BX0_becomeKind_42 (Qr : Option AV → MM → Prop) (K7 : PT) (lv : LV) (st : List AV) (M : MM) : Prop := (i_aload 0 (i_callV 0 4 SX0_isOfReals (i_if (fun a => a = 0) (i_iload 2 (i_if (fun a => a = 0) (i_cut [0, 1, 2, 3] (BX0_becomeKind_66 Qr K7)) (i_aload 0 (i_getR 4 7 (fun i => i) (i_iload 3 (i_aload 0 (i_getR 4 6 (fun i => i) (i_iload 3 (i_lald (i_L (fun a => .inl (.double (FP.l2d a))) (i_dast (i_cut [0, 1, 2, 3] (BX0_becomeKind_66 Qr K7))))))))))))) (i_cut [0, 1, 2, 3] (BX0_becomeKind_66 Qr K7))))) lv st M
set_option maxRecDepth 100000 in
set_option maxHeartbeats 4000000 in
theorem sBX0_becomeKind_42 {p : Program} {l : Launch} {e : Env} {s : State} {m : MethodId} {args : Array Value} {below : List Frame} {meth : Method} {c : Code} {G : Nat → Nat → Nat} {cy dC : Nat → ClassId} {dI : Nat → Nat → Nat} {Qr : Option AV → MM → Prop} {K7 : PT} (F : FX p m c cX0_becomeKind 4 RX0 s args (AW G) G cy dC dI) (hr : meth.sig.returnType = none) (hlk : meth.locks = false) (h7 : SO p l e rmX0_becomeKind s m args below meth c 0 0 (MQ below (QV G cy dC dI Qr) args s 0 0 (AW G)) 4 (AW G) G cy dC dI 7 K7) : SO p l e rmX0_becomeKind s m args below meth c 0 0 (MQ below (QV G cy dC dI Qr) args s 0 0 (AW G)) 4 (AW G) G cy dC dI 42 (BX0_becomeKind_42 Qr K7) := by
  exact (s_aload_n F dX0_becomeKind_42 rfl (s_callVi F dX0_becomeKind_43 (ctX0_isOfReals l) (lw_V q176 q177 q178 q2 q179) ⟨rfl, rfl⟩ (by decide +kernel) (by decide) ⟨Nat.zero_le _, Nat.zero_le _⟩ (ci := 0) rfl (fun _ _ _ _ => ⟨_, rfl⟩) (s_if_ne F dX0_becomeKind_46 (by decide) (s_cut [0, 1, 2, 3] (sBX0_becomeKind_66 F hr hlk h7)) (s_iload_n F dX0_becomeKind_49 rfl (s_if_eq F dX0_becomeKind_50 (by decide) (s_cut [0, 1, 2, 3] (sBX0_becomeKind_66 F hr hlk h7)) (s_aload_n F dX0_becomeKind_53 rfl (s_getR F (ci := 0) (f := 3) dX0_becomeKind_54 rfl in_X0 (by decide) q36 (fun _ _ _ _ => ⟨_, rfl, rfl⟩) (s_iload_n F dX0_becomeKind_57 rfl (s_aload_n F dX0_becomeKind_58 rfl (s_getR F (ci := 0) (f := 2) dX0_becomeKind_59 rfl in_X0 (by decide) q35 (fun _ _ _ _ => ⟨_, rfl, rfl⟩) (s_iload_n F dX0_becomeKind_62 rfl (s_lald F dX0_becomeKind_63 (s_l2d F dX0_becomeKind_64 (s_dast F dX0_becomeKind_65 (s_cut [0, 1, 2, 3] (sBX0_becomeKind_66 F hr hlk h7))))))))))))))))
def BX0_becomeKind_7 (Qr : Option AV → MM → Prop) (K7 : PT) (lv : LV) (st : List AV) (M : MM) : Prop := (i_iload 3 (i_aload 0 (i_getI 4 1 (i_cmp (fun a b => a < b) (i_aload 0 (i_callV 0 4 SX0_isOfReals (i_if (fun a => a = 0) (i_cut [0, 1, 2, 3] (BX0_becomeKind_42 Qr K7)) (i_iload 2 (i_if (fun a => a = 0) (i_aload 0 (i_getR 4 6 (fun i => i) (i_iload 3 (i_aload 0 (i_getR 4 7 (fun i => i) (i_iload 3 (i_dald (i_D (fun a => .inl (.long (FP.d2l a))) (i_last (i_cut [0, 1, 2, 3] (BX0_becomeKind_66 Qr K7))))))))))) (i_cut [0, 1, 2, 3] (BX0_becomeKind_42 Qr K7))))))) (i_aload 0 (i_iload 1 (i_putI 4 0 (i_vret Qr)))))))) lv st M
set_option maxRecDepth 100000 in
set_option maxHeartbeats 4000000 in
theorem sBX0_becomeKind_7 {p : Program} {l : Launch} {e : Env} {s : State} {m : MethodId} {args : Array Value} {below : List Frame} {meth : Method} {c : Code} {G : Nat → Nat → Nat} {cy dC : Nat → ClassId} {dI : Nat → Nat → Nat} {Qr : Option AV → MM → Prop} {K7 : PT} (F : FX p m c cX0_becomeKind 4 RX0 s args (AW G) G cy dC dI) (hr : meth.sig.returnType = none) (hlk : meth.locks = false) (h7 : SO p l e rmX0_becomeKind s m args below meth c 0 0 (MQ below (QV G cy dC dI Qr) args s 0 0 (AW G)) 4 (AW G) G cy dC dI 7 K7) : SO p l e rmX0_becomeKind s m args below meth c 0 0 (MQ below (QV G cy dC dI Qr) args s 0 0 (AW G)) 4 (AW G) G cy dC dI 7 (BX0_becomeKind_7 Qr K7) := by
  exact (s_iload_n F dX0_becomeKind_7 rfl (s_aload_n F dX0_becomeKind_8 rfl (s_getI F (ci := 0) dX0_becomeKind_9 rfl in_X0 (by decide) q33 (fun _ _ _ _ => ⟨_, rfl, rfl⟩) (s_icmp_ge F dX0_becomeKind_12 (by decide) (s_aload_n F dX0_becomeKind_72 rfl (s_iload_n F dX0_becomeKind_73 rfl (s_putI F (ci := 0) dX0_becomeKind_74 rfl in_X0 tyX0 tyX0_ok nmX0 (by decide) q31 rfl (by decide +kernel) (fun _ _ _ _ _ => ⟨_, rfl, Nat.le_of_ble_eq_true rfl, rfl⟩) (s_vret F dX0_becomeKind_77 hr hlk)))) (s_aload_n F dX0_becomeKind_15 rfl (s_callVi F dX0_becomeKind_16 (ctX0_isOfReals l) (lw_V q176 q177 q178 q2 q179) ⟨rfl, rfl⟩ (by decide +kernel) (by decide) ⟨Nat.zero_le _, Nat.zero_le _⟩ (ci := 0) rfl (fun _ _ _ _ => ⟨_, rfl⟩) (s_if_eq F dX0_becomeKind_19 (by decide) (s_cut [0, 1, 2, 3] (sBX0_becomeKind_42 F hr hlk h7)) (s_iload_n F dX0_becomeKind_22 rfl (s_if_ne F dX0_becomeKind_23 (by decide) (s_cut [0, 1, 2, 3] (sBX0_becomeKind_42 F hr hlk h7)) (s_aload_n F dX0_becomeKind_26 rfl (s_getR F (ci := 0) (f := 2) dX0_becomeKind_27 rfl in_X0 (by decide) q35 (fun _ _ _ _ => ⟨_, rfl, rfl⟩) (s_iload_n F dX0_becomeKind_30 rfl (s_aload_n F dX0_becomeKind_31 rfl (s_getR F (ci := 0) (f := 3) dX0_becomeKind_32 rfl in_X0 (by decide) q36 (fun _ _ _ _ => ⟨_, rfl, rfl⟩) (s_iload_n F dX0_becomeKind_35 rfl (s_dald F dX0_becomeKind_36 (s_d2l F dX0_becomeKind_37 (s_last F dX0_becomeKind_38 (s_goto F dX0_becomeKind_39 (by decide) (s_cut [0, 1, 2, 3] (sBX0_becomeKind_66 F hr hlk h7)))))))))))))))))))))
def BX0_becomeKind_0 (Qr : Option AV → MM → Prop) (K7 : PT) (lv : LV) (st : List AV) (M : MM) : Prop := (i_iload 1 (i_call 1 SX0_areReals (i_istore 2 (i_push (.inl (.int 0)) (i_istore 3 (i_cut [0, 1, 2, 3] K7)))))) lv st M
set_option maxRecDepth 100000 in
set_option maxHeartbeats 4000000 in
theorem sBX0_becomeKind_0 {p : Program} {l : Launch} {e : Env} {s : State} {m : MethodId} {args : Array Value} {below : List Frame} {meth : Method} {c : Code} {G : Nat → Nat → Nat} {cy dC : Nat → ClassId} {dI : Nat → Nat → Nat} {Qr : Option AV → MM → Prop} {K7 : PT} (F : FX p m c cX0_becomeKind 4 RX0 s args (AW G) G cy dC dI) (hr : meth.sig.returnType = none) (hlk : meth.locks = false) (h7 : SO p l e rmX0_becomeKind s m args below meth c 0 0 (MQ below (QV G cy dC dI Qr) args s 0 0 (AW G)) 4 (AW G) G cy dC dI 7 K7) : SO p l e rmX0_becomeKind s m args below meth c 0 0 (MQ below (QV G cy dC dI Qr) args s 0 0 (AW G)) 4 (AW G) G cy dC dI 0 (BX0_becomeKind_0 Qr K7) := by
  exact (s_iload_n F dX0_becomeKind_0 rfl (s_callSi F dX0_becomeKind_1 (ctX0_areReals l) (lw_S q180 q181 q2 q182) ⟨rfl, rfl⟩ (by decide +kernel) (by decide) ⟨Nat.zero_le _, Nat.zero_le _⟩ (s_istore_n F dX0_becomeKind_4 rfl (by decide) (s_iconst F dX0_becomeKind_5 (by decide) (s_istore_n F dX0_becomeKind_6 rfl (by decide) (s_cut [0, 1, 2, 3] h7))))))
set_option maxRecDepth 100000 in
set_option maxHeartbeats 4000000 in
theorem ctX0_becomeKind (l : Launch) : CV l yX0_becomeKind (ws_ yX0_becomeKind cX0_becomeKind 4 none) rmX0_becomeKind SX0_becomeKind := by
  refine mk_CV (by decide) ?_
  intro p e s m args below meth c G cy dC dI F hr hlk as M post hS
  unfold SX0_becomeKind at hS
  split at hS
  · rename_i t p0 k
    obtain ⟨rfl, hp, hc, hS⟩ := hS
    have hc40 := cnt_le hc
    have hL : ∀ n, SO p l e rmX0_becomeKind s m args below meth c 0 0 (MQ below (QV G cy dC dI post) args s 0 0 (AW G)) 4 (AW G) G cy dC dI 7 ((fun (n : Nat) (lv : LV) (st : List AV) (M' : MM) => ∃ i : Nat, i ≤ cnt M p0 ∧ n = cnt M p0 - i ∧ lv = [(0, .inr (4, p0)), (1, .inl (.int k)), (2, .inl (.int (b2i (isR k = true)))), (3, .inl (.int (nI i)))] ∧ st = [] ∧ M' = c_turn M p0 i k) n) := by
      refine SO_loop (fun K => BX0_becomeKind_7 post K) (fun K hK => sBX0_becomeKind_7 F hr hlk hK) (fun (n : Nat) (lv : LV) (st : List AV) (M' : MM) => ∃ i : Nat, i ≤ cnt M p0 ∧ n = cnt M p0 - i ∧ lv = [(0, .inr (4, p0)), (1, .inl (.int k)), (2, .inl (.int (b2i (isR k = true)))), (3, .inl (.int (nI i)))] ∧ st = [] ∧ M' = c_turn M p0 i k) ?_
      intro n lv st M' ⟨i, hi, hn, e1, e2, e3⟩
      subst e1; subst e2; subst e3
      simp only [BX0_becomeKind_0, BX0_becomeKind_7, BX0_becomeKind_42, BX0_becomeKind_66, i_push, i_iload, i_aload, i_istore, i_iinc, i_L, i_D, i_if, i_cmp, i_getI, i_getR, i_putI, i_lald, i_dald, i_last, i_dast, i_call, i_callV, i_vret, i_cut, lk, wd, rm1, rm2, pick, popn, catS, pushO, aLV, cond_true, cond_false, Bool.not_true, Bool.not_false, Bool.and_true, Bool.and_false, Bool.true_and, Bool.false_and, eq_self, true_and, and_true, Nat.reduceBEq, Nat.reduceAdd, reduceIte, Nat.reduceEqDiff, SX0_areReals, SX0_isOfReals]
      try simp only [tCnt, aK, aN, aR, eq_self, true_and, and_true, Nat.reduceLeDiff, Nat.reduceEqDiff]
      simp only [ct_1, b2i_0]
      refine ⟨hp, fun c => ?_, fun c => ?_⟩
      · rw [lt_cnt hc (by omega)] at c
        have hv := vin (n := 40) (i := i) (by omega) (by omega)
        have hcl : (nI i).toNatClampNeg = i := ncl (by omega)
        by_cases r1 : isR (M.1 4 p0 0) = true <;> by_cases r2 : isR k = true
        · simp only [r1, r2, hp, hv, Bool.false_eq_true, not_true_eq_false, not_false_eq_true, false_implies, true_implies, implies_true, true_and, and_true]
          exact ⟨n - 1, by omega, i + 1, by omega, by omega, by rw [nI_1], by rw [ct_id (by rw [r1, r2]), ct_id (by rw [r1, r2])]⟩
        · simp only [r1, r2, hp, hv, Bool.false_eq_true, not_true_eq_false, not_false_eq_true, false_implies, true_implies, implies_true, true_and, and_true]
          refine ⟨n - 1, by omega, i + 1, by omega, by omega, by rw [nI_1], ?_⟩
          rw [hcl]
          exact ct_sL r1 (by simpa using r2)
        · simp only [r1, r2, hp, hv, Bool.false_eq_true, not_true_eq_false, not_false_eq_true, false_implies, true_implies, implies_true, true_and, and_true]
          refine ⟨n - 1, by omega, i + 1, by omega, by omega, by rw [nI_1], ?_⟩
          rw [hcl]
          exact ct_sD (by simpa using r1) r2
        · simp only [r1, r2, hp, hv, Bool.false_eq_true, not_true_eq_false, not_false_eq_true, false_implies, true_implies, implies_true, true_and, and_true]
          have r12 : isR (M.1 4 p0 0) = isR k := by simp only [Bool.not_eq_true] at r1 r2; rw [r1, r2]
          exact ⟨n - 1, by omega, i + 1, by omega, by omega, by rw [nI_1], by rw [ct_id r12, ct_id r12]⟩
      · rw [lt_cnt hc (by omega)] at c
        rw [show cnt M p0 = i by omega] at hS
        exact ⟨hp, hS⟩
    refine ⟨by simp only [lk, wd, rm1, rm2, pick, popn, catS, pushO, aLV, cond_true, cond_false, Bool.not_true, Bool.not_false, Bool.and_true, Bool.and_false, Bool.true_and, Bool.false_and, eq_self, true_and, and_true, Nat.reduceBEq, Nat.reduceAdd, reduceIte, Nat.reduceEqDiff]; decide, sBX0_becomeKind_0 F hr hlk (SO_or hL) _ _ _ ?_⟩
    simp only [BX0_becomeKind_0, BX0_becomeKind_7, BX0_becomeKind_42, BX0_becomeKind_66, i_push, i_iload, i_aload, i_istore, i_iinc, i_L, i_D, i_if, i_cmp, i_getI, i_getR, i_putI, i_lald, i_dald, i_last, i_dast, i_call, i_callV, i_vret, i_cut, lk, wd, rm1, rm2, pick, popn, catS, pushO, aLV, cond_true, cond_false, Bool.not_true, Bool.not_false, Bool.and_true, Bool.and_false, Bool.true_and, Bool.false_and, eq_self, true_and, and_true, Nat.reduceBEq, Nat.reduceAdd, reduceIte, Nat.reduceEqDiff, SX0_areReals, SX0_isOfReals]
    try simp only [tCnt, aK, aN, aR, eq_self, true_and, and_true, Nat.reduceLeDiff, Nat.reduceEqDiff]
    exact ⟨cnt M p0, 0, by omega, by omega, rfl, (ct_0 _ _ _).symm⟩
  · exact hS.elim
def pW (M : MM) (j : Nat) : Int32 := if M.1 5 j 0 = 1 then M.1 5 j 1 + 3 * M.1 5 j 2 else if M.1 5 j 0 = 2 then M.1 5 j 1 / 2 + (M.1 5 j 2 + 1) / 2 else M.1 5 j 1
def SX1_begin : SP := fun as M post => match as with
  | [.inr (t, j), .inl (.int z), .inl (.int w)] => t = 5 ∧ j < 40 ∧ post none (sI (sI M 5 j 0 z) 5 j 1 w)
  | _ => False
abbrev rmX1_begin : Room := ({ frames := 0, cells := 0, slots := 0, locals := 0 } : Room)
def BX1_begin_0 (Qr : Option AV → MM → Prop) (lv : LV) (st : List AV) (M : MM) : Prop := (i_aload 0 (i_iload 1 (i_putI 5 0 (i_aload 0 (i_iload 2 (i_putI 5 1 (i_vret Qr))))))) lv st M
set_option maxRecDepth 100000 in
set_option maxHeartbeats 4000000 in
theorem sBX1_begin_0 {p : Program} {l : Launch} {e : Env} {s : State} {m : MethodId} {args : Array Value} {below : List Frame} {meth : Method} {c : Code} {G : Nat → Nat → Nat} {cy dC : Nat → ClassId} {dI : Nat → Nat → Nat} {Qr : Option AV → MM → Prop} (F : FX p m c cX1_begin 3 RX1 s args (AW G) G cy dC dI) (hr : meth.sig.returnType = none) (hlk : meth.locks = false) : SO p l e rmX1_begin s m args below meth c 0 0 (MQ below (QV G cy dC dI Qr) args s 0 0 (AW G)) 3 (AW G) G cy dC dI 0 (BX1_begin_0 Qr) := by
  exact (s_aload_n F dX1_begin_0 rfl (s_iload_n F dX1_begin_1 rfl (s_putI F (ci := 1) dX1_begin_2 rfl in_X1 tyX1 tyX1_ok nmX1 (by decide) q53 rfl (by decide +kernel) (fun _ _ _ _ _ => ⟨_, rfl, Nat.le_of_ble_eq_true rfl, rfl⟩) (s_aload_n F dX1_begin_5 rfl (s_iload_n F dX1_begin_6 rfl (s_putI F (ci := 1) dX1_begin_7 rfl in_X1 tyX1 tyX1_ok nmX1 (by decide) q55 rfl (by decide +kernel) (fun _ _ _ _ _ => ⟨_, rfl, Nat.le_of_ble_eq_true rfl, rfl⟩) (s_vret F dX1_begin_10 hr hlk)))))))
set_option maxRecDepth 100000 in
set_option maxHeartbeats 4000000 in
theorem ctX1_begin (l : Launch) : CV l yX1_begin (ws_ yX1_begin cX1_begin 3 none) rmX1_begin SX1_begin := by
  refine mk_CV (by decide) ?_
  intro p e s m args below meth c G cy dC dI F hr hlk as M post hS
  unfold SX1_begin at hS
  split at hS
  · rename_i t j z w
    obtain ⟨rfl, hp, hS⟩ := hS
    refine ⟨by simp only [lk, wd, rm1, rm2, pick, popn, catS, pushO, aLV, cond_true, cond_false, Bool.not_true, Bool.not_false, Bool.and_true, Bool.and_false, Bool.true_and, Bool.false_and, eq_self, true_and, and_true, Nat.reduceBEq, Nat.reduceAdd, reduceIte, Nat.reduceEqDiff]; decide, sBX1_begin_0 F hr hlk _ _ _ ?_⟩
    simp only [BX1_begin_0, i_iload, i_aload, i_putI, i_vret, lk, wd, rm1, rm2, pick, popn, catS, pushO, aLV, cond_true, cond_false, Bool.not_true, Bool.not_false, Bool.and_true, Bool.and_false, Bool.true_and, Bool.false_and, eq_self, true_and, and_true, Nat.reduceBEq, Nat.reduceAdd, reduceIte, Nat.reduceEqDiff]
    try simp only [tCnt, aK, aN, aR, eq_self, true_and, and_true, Nat.reduceLeDiff, Nat.reduceEqDiff]
    (repeat' (first | assumption | exact b2i_1 _ | apply And.intro | intro _)) <;> (first | assumption | decide | (simp_all [b2i]; done))
  · exact hS.elim
def SX1_weighed : SP := fun as M post => match as with
  | [.inr (t, j)] => t = 5 ∧ j < 40 ∧ post (some (.inl (.int (pW M j)))) M
  | _ => False
abbrev rmX1_weighed : Room := ({ frames := 0, cells := 0, slots := 0, locals := 0 } : Room)
theorem lsw_X1_weighed_4 (x : Int32) : ((4 : Nat) : Int) + Op.lookupswitch.offset (#[(1, 28), (2, 40)] : Array (Int × Int)).toList 56 x.toInt = (((if x = 1 then 32 else if x = 2 then 44 else 60) : Nat) : Int) := by
  by_cases e0 : x = 1
  · subst e0; decide
  by_cases e1 : x = 2
  · subst e1; decide
  show ((4 : Nat) : Int) + Op.lookupswitch.offset [(1, 28), (2, 40)] 56 x.toInt = _
  rw [lv_osw e0 (by decide), lv_osw e1 (by decide), if_neg e0, if_neg e1]
  rfl
def BX1_weighed_0 (Qr : Option AV → MM → Prop) (lv : LV) (st : List AV) (M : MM) : Prop := (i_aload 0 (i_getI 5 0 (i_sw [(1, (i_aload 0 (i_getI 5 1 (i_push (.inl (.int 3)) (i_aload 0 (i_getI 5 2 (i_II (fun a b => a * b) (i_II (fun a b => a + b) (i_iret Qr))))))))), (2, (i_aload 0 (i_getI 5 1 (i_push (.inl (.int 2)) (i_div (i_aload 0 (i_getI 5 2 (i_push (.inl (.int 1)) (i_II (fun a b => a + b) (i_push (.inl (.int 2)) (i_div (i_II (fun a b => a + b) (i_iret Qr)))))))))))))] (i_aload 0 (i_getI 5 1 (i_iret Qr)))))) lv st M
set_option maxRecDepth 100000 in
set_option maxHeartbeats 4000000 in
theorem sBX1_weighed_0 {p : Program} {l : Launch} {e : Env} {s : State} {m : MethodId} {args : Array Value} {below : List Frame} {meth : Method} {c : Code} {G : Nat → Nat → Nat} {cy dC : Nat → ClassId} {dI : Nat → Nat → Nat} {Qr : Option AV → MM → Prop} (F : FX p m c cX1_weighed 1 RX1 s args (AW G) G cy dC dI) (hr : meth.sig.returnType = (some .int)) (hlk : meth.locks = false) : SO p l e rmX1_weighed s m args below meth c 0 0 (MQ below (QI G cy dC dI Qr) args s 0 0 (AW G)) 1 (AW G) G cy dC dI 0 (BX1_weighed_0 Qr) := by
  exact (s_aload_n F dX1_weighed_0 rfl (s_getI F (ci := 1) dX1_weighed_1 rfl in_X1 (by decide) q53 (fun _ _ _ _ => ⟨_, rfl, rfl⟩) (s_lsw F [(1, (i_aload 0 (i_getI 5 1 (i_push (.inl (.int 3)) (i_aload 0 (i_getI 5 2 (i_II (fun a b => a * b) (i_II (fun a b => a + b) (i_iret Qr))))))))), (2, (i_aload 0 (i_getI 5 1 (i_push (.inl (.int 2)) (i_div (i_aload 0 (i_getI 5 2 (i_push (.inl (.int 1)) (i_II (fun a b => a + b) (i_push (.inl (.int 2)) (i_div (i_II (fun a b => a + b) (i_iret Qr)))))))))))))] (fun x => if x = 1 then 32 else if x = 2 then 44 else 60) dX1_weighed_4 (by decide) (lsw_X1_weighed_4) (List.forall_mem_cons.mpr ⟨(show SO _ _ _ _ _ _ _ _ _ _ _ _ _ _ _ _ _ _ _ 32 _ from (s_aload_n F dX1_weighed_32 rfl (s_getI F (ci := 1) dX1_weighed_33 rfl in_X1 (by decide) q55 (fun _ _ _ _ => ⟨_, rfl, rfl⟩) (s_iconst F dX1_weighed_36 (by decide) (s_aload_n F dX1_weighed_37 rfl (s_getI F (ci := 1) dX1_weighed_38 rfl in_X1 (by decide) q56 (fun _ _ _ _ => ⟨_, rfl, rfl⟩) (s_imul F dX1_weighed_41 (s_iadd F dX1_weighed_42 (s_iret F dX1_weighed_43 hr hlk))))))))), (List.forall_mem_cons.mpr ⟨(show SO _ _ _ _ _ _ _ _ _ _ _ _ _ _ _ _ _ _ _ 44 _ from (s_aload_n F dX1_weighed_44 rfl (s_getI F (ci := 1) dX1_weighed_45 rfl in_X1 (by decide) q55 (fun _ _ _ _ => ⟨_, rfl, rfl⟩) (s_iconst F dX1_weighed_48 (by decide) (s_idiv F dX1_weighed_49 (s_aload_n F dX1_weighed_50 rfl (s_getI F (ci := 1) dX1_weighed_51 rfl in_X1 (by decide) q56 (fun _ _ _ _ => ⟨_, rfl, rfl⟩) (s_iconst F dX1_weighed_54 (by decide) (s_iadd F dX1_weighed_55 (s_iconst F dX1_weighed_56 (by decide) (s_idiv F dX1_weighed_57 (s_iadd F dX1_weighed_58 (s_iret F dX1_weighed_59 hr hlk))))))))))))), fun _ hq => nomatch hq⟩)⟩) (fun x hx => by have hx2 := hx; simp only [List.forall_mem_cons] at hx2; obtain ⟨e0, e1, -⟩ := hx2; have hgo : (if x = 1 then 32 else if x = 2 then 44 else 60) = 60 := (by simp only [if_neg e0, if_neg e1]); show SO _ _ _ _ _ _ _ _ _ _ _ _ _ _ _ _ _ _ _ (if x = 1 then 32 else if x = 2 then 44 else 60) _; rw [hgo]; exact (s_aload_n F dX1_weighed_60 rfl (s_getI F (ci := 1) dX1_weighed_61 rfl in_X1 (by decide) q55 (fun _ _ _ _ => ⟨_, rfl, rfl⟩) (s_iret F dX1_weighed_64 hr hlk)))))))
set_option maxRecDepth 100000 in
set_option maxHeartbeats 4000000 in
theorem ctX1_weighed (l : Launch) : CI l yX1_weighed (ws_ yX1_weighed cX1_weighed 1 (some .int)) rmX1_weighed SX1_weighed := by
  refine mk_CI (by decide) ?_
  intro p e s m args below meth c G cy dC dI F hr hlk as M post hS
  unfold SX1_weighed at hS
  split at hS
  · rename_i t j
    obtain ⟨rfl, hp, hS⟩ := hS
    refine ⟨by simp only [lk, wd, rm1, rm2, pick, popn, catS, pushO, aLV, cond_true, cond_false, Bool.not_true, Bool.not_false, Bool.and_true, Bool.and_false, Bool.true_and, Bool.false_and, eq_self, true_and, and_true, Nat.reduceBEq, Nat.reduceAdd, reduceIte, Nat.reduceEqDiff]; decide, sBX1_weighed_0 F hr hlk _ _ _ ?_⟩
    simp only [BX1_weighed_0, i_push, i_aload, i_II, i_div, i_sw, i_getI, i_iret, i_swc, lk, wd, rm1, rm2, pick, popn, catS, pushO, aLV, cond_true, cond_false, Bool.not_true, Bool.not_false, Bool.and_true, Bool.and_false, Bool.true_and, Bool.false_and, eq_self, true_and, and_true, Nat.reduceBEq, Nat.reduceAdd, reduceIte, Nat.reduceEqDiff]
    try simp only [tCnt, aK, aN, aR, eq_self, true_and, and_true, Nat.reduceLeDiff, Nat.reduceEqDiff]
    (repeat' (first | assumption | exact b2i_1 _ | apply And.intro | intro _)) <;> (first | assumption | decide | (simpa [pW, *] using hS) | (simp_all [b2i, pW]; done))
  · exact hS.elim
