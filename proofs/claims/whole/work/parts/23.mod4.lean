/-- cells of place p made, the first c of them -/
def mkF (N : MM) (p : Nat) (k : Int32) (c : Nat) : MM := rD (rL N 12 0 (fun j => if 40 * p ≤ j ∧ j < 40 * p + c then (if k < 7 then 0 else -1) else N.2.1 12 0 j)) 13 0 (fun j => if 40 * p ≤ j ∧ j < 40 * p + c then 0 else N.2.2 13 0 j)
/-- cells of place p out of the ones laid aside, the first c of them -/
def tkF (N : MM) (p f c : Nat) : MM := rD (rL N 12 0 (fun j => if 40 * p ≤ j ∧ j < 40 * p + c then N.2.1 17 0 (40 * f + (j - 40 * p)) else N.2.1 12 0 j)) 13 0 (fun j => if 40 * p ≤ j ∧ j < 40 * p + c then N.2.2 18 0 (40 * f + (j - 40 * p)) else N.2.2 13 0 j)
theorem mkF_0 (N : MM) (p : Nat) (k : Int32) : mkF N p k 0 = N := by
  refine MM_ext (fun _ _ _ => rfl) (fun t i j => ?_) (fun t i j => ?_)
  · simp only [mkF, rL, rD]
    split
    · rename_i h; obtain ⟨rfl, rfl⟩ := h
      dsimp only
      rw [if_neg (by omega)]
    · rfl
  · simp only [mkF, rL, rD]
    split
    · rename_i h; obtain ⟨rfl, rfl⟩ := h
      dsimp only
      rw [if_neg (by omega)]
    · rfl
theorem mkF_1 (N : MM) (p : Nat) (k : Int32) (i : Nat) : sD (sL (mkF N p k i) 12 0 (40 * p + i) (if k < 7 then 0 else -1)) 13 0 (40 * p + i) 0 = mkF N p k (i + 1) := by
  unfold mkF
  generalize (if k < 7 then (0 : Int64) else -1) = w
  refine MM_ext (fun _ _ _ => rfl) (fun t z j => ?_) (fun t z j => ?_)
  · simp only [rL, rD, sL, sD]
    by_cases h : t = 12 ∧ z = 0
    · obtain ⟨rfl, rfl⟩ := h
      by_cases hj : j = 40 * p + i
      · subst hj
        simp only [and_self, if_true]
        rw [if_pos (by omega)]
      · simp only [true_and, hj, if_false, and_self, if_true]
        by_cases h3 : 40 * p ≤ j ∧ j < 40 * p + i
        · rw [if_pos h3, if_pos (by omega)]
        · rw [if_neg h3, if_neg (by omega)]
    · rw [if_neg (fun q => h ⟨q.1, q.2.1⟩), if_neg h, if_neg h]
  · simp only [rL, rD, sL, sD]
    by_cases h : t = 13 ∧ z = 0
    · obtain ⟨rfl, rfl⟩ := h
      by_cases hj : j = 40 * p + i
      · subst hj
        simp only [and_self, if_true]
        rw [if_pos (by omega)]
      · simp only [true_and, hj, if_false, and_self, if_true]
        by_cases h3 : 40 * p ≤ j ∧ j < 40 * p + i
        · rw [if_pos h3, if_pos (by omega)]
        · rw [if_neg h3, if_neg (by omega)]
    · rw [if_neg (fun q => h ⟨q.1, q.2.1⟩), if_neg h, if_neg h]
theorem tkF_0 (N : MM) (p f : Nat) : tkF N p f 0 = N := by
  refine MM_ext (fun _ _ _ => rfl) (fun t i j => ?_) (fun t i j => ?_)
  · simp only [tkF, rL, rD]
    split
    · rename_i h; obtain ⟨rfl, rfl⟩ := h
      dsimp only
      rw [if_neg (by omega)]
    · rfl
  · simp only [tkF, rL, rD]
    split
    · rename_i h; obtain ⟨rfl, rfl⟩ := h
      dsimp only
      rw [if_neg (by omega)]
    · rfl
theorem tkF_h (N : MM) (p f i j : Nat) : (tkF N p f i).2.1 17 0 j = N.2.1 17 0 j ∧ (tkF N p f i).2.2 18 0 j = N.2.2 18 0 j := by
  constructor <;> simp [tkF, rL, rD]
theorem tkF_1 (N : MM) (p f : Nat) (i : Nat) : sD (sL (tkF N p f i) 12 0 (40 * p + i) (N.2.1 17 0 (40 * f + i))) 13 0 (40 * p + i) (N.2.2 18 0 (40 * f + i)) = tkF N p f (i + 1) := by
  refine MM_ext (fun _ _ _ => rfl) (fun t z j => ?_) (fun t z j => ?_)
  · simp only [tkF, rL, rD, sL, sD]
    by_cases h : t = 12 ∧ z = 0
    · obtain ⟨rfl, rfl⟩ := h
      by_cases hj : j = 40 * p + i
      · subst hj
        simp only [and_self, if_true]
        rw [if_pos (by omega), show 40 * p + i - 40 * p = i by omega]
      · simp only [true_and, hj, if_false, and_self, if_true]
        by_cases h3 : 40 * p ≤ j ∧ j < 40 * p + i
        · rw [if_pos h3, if_pos (by omega)]
        · rw [if_neg h3, if_neg (by omega)]
    · rw [if_neg (fun q => h ⟨q.1, q.2.1⟩), if_neg h, if_neg h]
  · simp only [tkF, rL, rD, sL, sD]
    by_cases h : t = 13 ∧ z = 0
    · obtain ⟨rfl, rfl⟩ := h
      by_cases hj : j = 40 * p + i
      · subst hj
        simp only [and_self, if_true]
        rw [if_pos (by omega), show 40 * p + i - 40 * p = i by omega]
      · simp only [true_and, hj, if_false, and_self, if_true]
        by_cases h3 : 40 * p ≤ j ∧ j < 40 * p + i
        · rw [if_pos h3, if_pos (by omega)]
        · rw [if_neg h3, if_neg (by omega)]
    · rw [if_neg (fun q => h ⟨q.1, q.2.1⟩), if_neg h, if_neg h]
def m_make (N : MM) (p k n : Int32) : Int32 × MM := if isPl p = false ∨ inR k 0 9 = false ∨ 40 < n then (-1, N) else if n < 0 then (-16, N) else (n, mkF (sI (sI (sI N 9 0 (cl p) k) 10 0 (cl p) n) 11 0 (cl p) 0) (cl p) k (cl n))
def m_take (N : MM) (p f : Nat) : MM := tkF (sI (sI (sI N 9 0 p (N.1 14 0 f)) 10 0 p (N.1 15 0 f)) 11 0 p (vp_nar .boolean (N.1 16 0 f))) p f 40
def m_sum (N : MM) (p k : Int32) : Int32 := if isPl p = false ∨ isKN k = false then -1 else if N.1 9 0 (cl p) = -1 then -11 else if ¬ N.1 9 0 (cl p) = k then -15 else if ¬ N.1 11 0 (cl p) = 0 then -11 else bx_sum (fun j => (mTel N (cl p) j).toInt32) (mcnt N (cl p))
theorem mlt_cnt {N : MM} {p i : Nat} (h : ∃ n, n ≤ 40 ∧ N.1 10 0 p = nI n) (hi : i ≤ 40) : (nI i < N.1 10 0 p) = (i < mcnt N p) := by
  obtain ⟨n, hn, e⟩ := h
  unfold mcnt
  rw [e, nI_clamp (by omega)]
  exact propext (nI_ltI (by omega) (by omega))
theorem mcnt_le {N : MM} {p : Nat} (h : ∃ n, n ≤ 40 ∧ N.1 10 0 p = nI n) : mcnt N p ≤ 40 := by
  obtain ⟨n, hn, e⟩ := h
  unfold mcnt
  rw [e, nI_clamp (by omega)]
  exact hn
theorem ix40n {p : Int32} {i : Nat} (hp : isPl p = true) (hi : i < 40) : 40 * p + nI i = nI (40 * cl p + i) := by
  have := ix40 hp (i := nI i) (nI_pos (by omega)) (by unfold cl; rw [ncl (by omega)]; exact hi)
  rw [this]
  unfold cl
  rw [ncl (i := i) (by omega)]
theorem not_pl {p : Int32} (h : ¬ isPl p = true) : isPl p = false := by simpa using h

def SX3_make : SP := fun as M post => match as with
  | [.inr (t, i0), .inl (.int p0), .inl (.int k), .inl (.int n0)] => t = 8 ∧ i0 = 0 ∧ post (some (.inl (.int (m_make (z0 M) p0 k n0).1))) (m_make (z0 M) p0 k n0).2
  | _ => False
abbrev rmX3_make : Room := ({ frames := 2, cells := 0, slots := 0, locals := 120 } : Room)
def BX3_make_91 (Qr : Option AV → MM → Prop) (K61 : PT) (lv : LV) (st : List AV) (M : MM) : Prop := (i_last (i_aload 0 (i_getR 8 13 (fun _ => 0) (i_push (.inl (.int 40)) (i_iload 1 (i_II (fun a b => a * b) (i_iload 4 (i_II (fun a b => a + b) (i_push (.inl (.double 0)) (i_dast (i_iinc 4 1 (i_cut [0, 1, 2, 3, 4] K61)))))))))))) lv st M
set_option maxRecDepth 100000 in
set_option maxHeartbeats 4000000 in
theorem sBX3_make_91 {p : Program} {l : Launch} {e : Env} {s : State} {m : MethodId} {args : Array Value} {below : List Frame} {meth : Method} {c : Code} {G : Nat → Nat → Nat} {cy dC : Nat → ClassId} {dI : Nat → Nat → Nat} {Qr : Option AV → MM → Prop} {K61 : PT} (F : FX p m c cX3_make 5 RX3 s args (AW G) G cy dC dI) (hr : meth.sig.returnType = (some .int)) (hlk : meth.locks = false) (h61 : SO p l e rmX3_make s m args below meth c 0 0 (MQ below (QI G cy dC dI Qr) args s 0 0 (AW G)) 5 (AW G) G cy dC dI 61 K61) : SO p l e rmX3_make s m args below meth c 0 0 (MQ below (QI G cy dC dI Qr) args s 0 0 (AW G)) 5 (AW G) G cy dC dI 91 (BX3_make_91 Qr K61) := by
  exact (s_last F dX3_make_91 (s_aload_n F dX3_make_92 rfl (s_getR F (ci := 3) (f := 5) dX3_make_93 rfl in_X3 (by decide) q472 (fun _ _ _ _ => ⟨_, rfl, rfl⟩) (s_bipush F dX3_make_96 (by decide) (s_iload_n F dX3_make_98 rfl (s_imul F dX3_make_99 (s_iload F dX3_make_100 (s_iadd F dX3_make_102 (s_dconst0 F dX3_make_103 (s_dast F dX3_make_104 (s_iinc F dX3_make_105 (by decide) (by decide) (s_goto F dX3_make_108 (by decide) (s_cut [0, 1, 2, 3, 4] h61)))))))))))))
def BX3_make_61 (Qr : Option AV → MM → Prop) (K61 : PT) (lv : LV) (st : List AV) (M : MM) : Prop := (i_iload 4 (i_iload 3 (i_cmp (fun a b => a < b) (i_aload 0 (i_getR 8 12 (fun _ => 0) (i_push (.inl (.int 40)) (i_iload 1 (i_II (fun a b => a * b) (i_iload 4 (i_II (fun a b => a + b) (i_iload 2 (i_push (.inl (.int 7)) (i_cmp (fun a b => a < b) (i_push (.inl (.long 0)) (i_cut [0, 1, 2, 3, 4] (BX3_make_91 Qr K61))) (i_push (.inl (.long (-1))) (i_cut [0, 1, 2, 3, 4] (BX3_make_91 Qr K61))))))))))))) (i_iload 3 (i_iret Qr))))) lv st M
set_option maxRecDepth 100000 in
set_option maxHeartbeats 4000000 in
theorem sBX3_make_61 {p : Program} {l : Launch} {e : Env} {s : State} {m : MethodId} {args : Array Value} {below : List Frame} {meth : Method} {c : Code} {G : Nat → Nat → Nat} {cy dC : Nat → ClassId} {dI : Nat → Nat → Nat} {Qr : Option AV → MM → Prop} {K61 : PT} (F : FX p m c cX3_make 5 RX3 s args (AW G) G cy dC dI) (hr : meth.sig.returnType = (some .int)) (hlk : meth.locks = false) (h61 : SO p l e rmX3_make s m args below meth c 0 0 (MQ below (QI G cy dC dI Qr) args s 0 0 (AW G)) 5 (AW G) G cy dC dI 61 K61) : SO p l e rmX3_make s m args below meth c 0 0 (MQ below (QI G cy dC dI Qr) args s 0 0 (AW G)) 5 (AW G) G cy dC dI 61 (BX3_make_61 Qr K61) := by
  exact (s_iload F dX3_make_61 (s_iload_n F dX3_make_63 rfl (s_icmp_ge F dX3_make_64 (by decide) (s_iload_n F dX3_make_111 rfl (s_iret F dX3_make_112 hr hlk)) (s_aload_n F dX3_make_67 rfl (s_getR F (ci := 3) (f := 4) dX3_make_68 rfl in_X3 (by decide) q471 (fun _ _ _ _ => ⟨_, rfl, rfl⟩) (s_bipush F dX3_make_71 (by decide) (s_iload_n F dX3_make_73 rfl (s_imul F dX3_make_74 (s_iload F dX3_make_75 (s_iadd F dX3_make_77 (s_iload_n F dX3_make_78 rfl (s_bipush F dX3_make_79 (by decide) (s_icmp_lt F dX3_make_81 (by decide) (s_lconst F dX3_make_90 (by decide) (s_cut [0, 1, 2, 3, 4] (sBX3_make_91 F hr hlk h61))) (s_ldc2 F dX3_make_84 q535 (s_goto F dX3_make_87 (by decide) (s_cut [0, 1, 2, 3, 4] (sBX3_make_91 F hr hlk h61)))))))))))))))))
def BX3_make_0 (Qr : Option AV → MM → Prop) (K61 : PT) (lv : LV) (st : List AV) (M : MM) : Prop := (i_aload 0 (i_push (.inl (.int 0)) (i_putI 8 0 (i_iload 1 (i_call 1 SX3_isPlace (i_if (fun a => a = 0) (i_push (.inl (.int (-1))) (i_iret Qr)) (i_iload 2 (i_push (.inl (.int 0)) (i_push (.inl (.int 9)) (i_call 3 SX3_in (i_if (fun a => a = 0) (i_push (.inl (.int (-1))) (i_iret Qr)) (i_iload 3 (i_push (.inl (.int 40)) (i_cmp (fun a b => b < a) (i_push (.inl (.int (-1))) (i_iret Qr)) (i_iload 3 (i_if (fun a => a < 0) (i_push (.inl (.int (-16))) (i_iret Qr)) (i_aload 0 (i_getR 8 9 (fun _ => 0) (i_iload 1 (i_iload 2 (i_iast (i_aload 0 (i_getR 8 10 (fun _ => 0) (i_iload 1 (i_iload 3 (i_iast (i_aload 0 (i_getR 8 11 (fun _ => 0) (i_iload 1 (i_push (.inl (.int 0)) (i_bast (i_push (.inl (.int 0)) (i_istore 4 (i_cut [0, 1, 2, 3, 4] K61)))))))))))))))))))))))))))))))))) lv st M
set_option maxRecDepth 100000 in
set_option maxHeartbeats 4000000 in
theorem sBX3_make_0 {p : Program} {l : Launch} {e : Env} {s : State} {m : MethodId} {args : Array Value} {below : List Frame} {meth : Method} {c : Code} {G : Nat → Nat → Nat} {cy dC : Nat → ClassId} {dI : Nat → Nat → Nat} {Qr : Option AV → MM → Prop} {K61 : PT} (F : FX p m c cX3_make 5 RX3 s args (AW G) G cy dC dI) (hr : meth.sig.returnType = (some .int)) (hlk : meth.locks = false) (h61 : SO p l e rmX3_make s m args below meth c 0 0 (MQ below (QI G cy dC dI Qr) args s 0 0 (AW G)) 5 (AW G) G cy dC dI 61 K61) : SO p l e rmX3_make s m args below meth c 0 0 (MQ below (QI G cy dC dI Qr) args s 0 0 (AW G)) 5 (AW G) G cy dC dI 0 (BX3_make_0 Qr K61) := by
  exact (s_aload_n F dX3_make_0 rfl (s_iconst F dX3_make_1 (by decide) (s_putI F (ci := 3) dX3_make_2 rfl in_X3 tyX3 tyX3_ok nmX3 (by decide) q467 rfl (by decide +kernel) (fun _ _ _ _ _ => ⟨_, rfl, Nat.le_of_ble_eq_true rfl, rfl⟩) (s_iload_n F dX3_make_5 rfl (s_callSi F dX3_make_6 (ctX3_isPlace l) (lw_S q529 q530 q4 q531) ⟨rfl, rfl⟩ (by decide +kernel) (by decide) ⟨Nat.zero_le _, Nat.zero_le _⟩ (s_if_eq F dX3_make_9 (by decide) (s_iconst F dX3_make_28 (by decide) (s_iret F dX3_make_29 hr hlk)) (s_iload_n F dX3_make_12 rfl (s_iconst F dX3_make_13 (by decide) (s_bipush F dX3_make_14 (by decide) (s_callSi F dX3_make_16 (ctX3_in l) (lw_S q532 q533 q4 q534) ⟨rfl, rfl⟩ (by decide +kernel) (by decide) ⟨Nat.zero_le _, Nat.zero_le _⟩ (s_if_eq F dX3_make_19 (by decide) (s_iconst F dX3_make_28 (by decide) (s_iret F dX3_make_29 hr hlk)) (s_iload_n F dX3_make_22 rfl (s_bipush F dX3_make_23 (by decide) (s_icmp_le F dX3_make_25 (by decide) (s_iload_n F dX3_make_30 rfl (s_if_ge F dX3_make_31 (by decide) (s_aload_n F dX3_make_37 rfl (s_getR F (ci := 3) (f := 1) dX3_make_38 rfl in_X3 (by decide) q468 (fun _ _ _ _ => ⟨_, rfl, rfl⟩) (s_iload_n F dX3_make_41 rfl (s_iload_n F dX3_make_42 rfl (s_iast F dX3_make_43 (s_aload_n F dX3_make_44 rfl (s_getR F (ci := 3) (f := 2) dX3_make_45 rfl in_X3 (by decide) q469 (fun _ _ _ _ => ⟨_, rfl, rfl⟩) (s_iload_n F dX3_make_48 rfl (s_iload_n F dX3_make_49 rfl (s_iast F dX3_make_50 (s_aload_n F dX3_make_51 rfl (s_getR F (ci := 3) (f := 3) dX3_make_52 rfl in_X3 (by decide) q470 (fun _ _ _ _ => ⟨_, rfl, rfl⟩) (s_iload_n F dX3_make_55 rfl (s_iconst F dX3_make_56 (by decide) (s_bast F dX3_make_57 (s_iconst F dX3_make_58 (by decide) (s_istore F dX3_make_59 (by decide) (s_cut [0, 1, 2, 3, 4] h61)))))))))))))))))) (s_bipush F dX3_make_34 (by decide) (s_iret F dX3_make_36 hr hlk)))) (s_iconst F dX3_make_28 (by decide) (s_iret F dX3_make_29 hr hlk))))))))))))))))
set_option maxRecDepth 100000 in
set_option maxHeartbeats 4000000 in
theorem ctX3_make (l : Launch) : CI l yX3_make (ws_ yX3_make cX3_make 5 (some .int)) rmX3_make SX3_make := by
  refine mk_CI (by decide) ?_
  intro p e s m args below meth c G cy dC dI F hr hlk as M post hS
  unfold SX3_make at hS
  split at hS
  · rename_i t i0 p0 k n0
    obtain ⟨rfl, rfl, hS⟩ := hS
    by_cases hbad : isPl p0 = false ∨ inR k 0 9 = false ∨ 40 < n0 ∨ n0 < 0
    · refine ⟨by simp only [lk, wd, rm1, rm2, pick, popn, catS, pushO, aLV, cond_true, cond_false, Bool.not_true, Bool.not_false, Bool.and_true, Bool.and_false, Bool.true_and, Bool.false_and, eq_self, true_and, and_true, Nat.reduceBEq, Nat.reduceAdd, reduceIte, Nat.reduceEqDiff]; decide, sBX3_make_0 F hr hlk SO_no _ _ _ ?_⟩
      simp only [BX3_make_0, BX3_make_61, BX3_make_91, i_push, i_iload, i_aload, i_istore, i_iinc, i_II, i_if, i_cmp, i_getR, i_putI, i_iast, i_bast, i_last, i_dast, i_call, i_iret, i_cut, lk, wd, rm1, rm2, pick, popn, catS, pushO, aLV, cond_true, cond_false, Bool.not_true, Bool.not_false, Bool.and_true, Bool.and_false, Bool.true_and, Bool.false_and, eq_self, true_and, and_true, Nat.reduceBEq, Nat.reduceAdd, reduceIte, Nat.reduceEqDiff, SX3_in, SX3_isPlace]
      try simp only [tCnt, aK, aN, aR, eq_self, true_and, and_true, Nat.reduceLeDiff, Nat.reduceEqDiff]
      simp only [m_make] at hS
      simp only [b2i_0, Bool.not_eq_true, Bool.not_eq_false]
      by_cases h1 : isPl p0 = false
      · simp only [h1, true_or, if_true] at hS
        simp only [h1, Bool.false_eq_true, true_implies, false_implies, and_true]
        exact ⟨by decide, hS⟩
      have h1' : isPl p0 = true := by simpa using h1
      by_cases h2 : inR k 0 9 = false
      · simp only [h1', h2, Bool.true_eq_false, true_or, or_true, if_true] at hS
        simp only [h1', h2, Bool.true_eq_false, Bool.false_eq_true, true_implies, false_implies, true_and, and_true]
        exact ⟨by decide, hS⟩
      have h2' : inR k 0 9 = true := by simpa using h2
      by_cases h3 : 40 < n0
      · simp only [h1', h2', h3, Bool.true_eq_false, or_true, if_true] at hS
        simp only [h1', h2', h3, Bool.true_eq_false, not_true_eq_false, true_implies, false_implies, true_and, and_true]
        exact ⟨by decide, hS⟩
      have h4 : n0 < 0 := by
        rcases hbad with q | q | q | q
        · exact absurd q h1
        · exact absurd q h2
        · exact absurd q h3
        · exact q
      simp only [h1', h2', h3, h4, Bool.true_eq_false, or_self, if_false, if_true] at hS
      simp only [h1', h2', h3, h4, Bool.true_eq_false, not_true_eq_false, not_false_eq_true, true_implies, false_implies, true_and, and_true]
      exact ⟨by decide, hS⟩
    · simp only [not_or, Bool.not_eq_false] at hbad
      obtain ⟨h1, h2, h3, h4⟩ := hbad
      obtain ⟨hv, hp24⟩ := isPl_in h1
      have hx : m_make (z0 M) p0 k n0 = (n0, mkF (sI (sI (sI (z0 M) 9 0 (cl p0) k) 10 0 (cl p0) n0) 11 0 (cl p0) 0) (cl p0) k (cl n0)) := by
        unfold m_make
        rw [if_neg (by rw [h1, h2]; simp [h3]), if_neg h4]
      rw [hx] at hS
      have hn40 : cl n0 ≤ 40 := by
        obtain ⟨j, hj, rfl⟩ := nI_of h4
        unfold cl
        rw [nI_clamp hj]
        have := mt (nI_ltI (a := 40) (b := j) (by omega) hj).mpr h3
        omega
      obtain ⟨n', hn', rfl⟩ : ∃ n', n' ≤ 40 ∧ n0 = nI n' := ⟨cl n0, hn40, nI_cl h4⟩
      rw [show cl (nI n') = n' from ncl (by omega)] at hS
      generalize hN : sI (sI (sI (z0 M) 9 0 (cl p0) k) 10 0 (cl p0) (nI n')) 11 0 (cl p0) 0 = N at hS
      have hL : ∀ n, SO p l e rmX3_make s m args below meth c 0 0 (MQ below (QI G cy dC dI post) args s 0 0 (AW G)) 5 (AW G) G cy dC dI 61 ((fun (n : Nat) (lv : LV) (st : List AV) (M' : MM) => ∃ i : Nat, i ≤ n' ∧ n = n' - i ∧ lv = [(0, .inr (8, 0)), (1, .inl (.int p0)), (2, .inl (.int k)), (3, .inl (.int (nI n'))), (4, .inl (.int (nI i)))] ∧ st = [] ∧ M' = mkF N (cl p0) k i) n) := by
        refine SO_loop (fun K => BX3_make_61 post K) (fun K hK => sBX3_make_61 F hr hlk hK) (fun (n : Nat) (lv : LV) (st : List AV) (M' : MM) => ∃ i : Nat, i ≤ n' ∧ n = n' - i ∧ lv = [(0, .inr (8, 0)), (1, .inl (.int p0)), (2, .inl (.int k)), (3, .inl (.int (nI n'))), (4, .inl (.int (nI i)))] ∧ st = [] ∧ M' = mkF N (cl p0) k i) ?_
        intro n lv st M' ⟨i, hi, hn, e1, e2, e3⟩
        subst e1; subst e2; subst e3
        simp only [BX3_make_0, BX3_make_61, BX3_make_91, i_push, i_iload, i_aload, i_istore, i_iinc, i_II, i_if, i_cmp, i_getR, i_putI, i_iast, i_bast, i_last, i_dast, i_call, i_iret, i_cut, lk, wd, rm1, rm2, pick, popn, catS, pushO, aLV, cond_true, cond_false, Bool.not_true, Bool.not_false, Bool.and_true, Bool.and_false, Bool.true_and, Bool.false_and, eq_self, true_and, and_true, Nat.reduceBEq, Nat.reduceAdd, reduceIte, Nat.reduceEqDiff, SX3_in, SX3_isPlace]
        try simp only [tCnt, aK, aN, aR, eq_self, true_and, and_true, Nat.reduceLeDiff, Nat.reduceEqDiff]
        refine ⟨fun c => ?_, fun c => ?_⟩
        · have hlt : i < n' := (nI_ltI (by omega) (by omega)).mp c
          simp only [ix40n h1 (show i < 40 by omega), show (nI (40 * cl p0 + i)).toNatClampNeg = 40 * cl p0 + i from ncl (by omega)]
          have hvi := vin (n := 960) (i := 40 * cl p0 + i) (by omega) (by omega)
          (repeat (first | refine And.intro hvi ?_ | refine And.intro (by decide) ?_))
          refine ⟨fun c2 => ?_, fun c2 => ?_⟩
          · (repeat (first | refine And.intro hvi ?_ | refine And.intro (by decide) ?_))
            refine ⟨n - 1, by omega, i + 1, by omega, by omega, by rw [nI_1], ?_⟩
            rw [← mkF_1, if_pos c2]
          · (repeat (first | refine And.intro hvi ?_ | refine And.intro (by decide) ?_))
            refine ⟨n - 1, by omega, i + 1, by omega, by omega, by rw [nI_1], ?_⟩
            rw [← mkF_1, if_neg c2]
        · have hge : i = n' := by
            have := mt (nI_ltI (a := i) (b := n') (by omega) (by omega)).mpr c
            omega
          subst hge
          exact hS
      refine ⟨by simp only [lk, wd, rm1, rm2, pick, popn, catS, pushO, aLV, cond_true, cond_false, Bool.not_true, Bool.not_false, Bool.and_true, Bool.and_false, Bool.true_and, Bool.false_and, eq_self, true_and, and_true, Nat.reduceBEq, Nat.reduceAdd, reduceIte, Nat.reduceEqDiff]; decide, sBX3_make_0 F hr hlk (SO_or hL) _ _ _ ?_⟩
      simp only [BX3_make_0, BX3_make_61, BX3_make_91, i_push, i_iload, i_aload, i_istore, i_iinc, i_II, i_if, i_cmp, i_getR, i_putI, i_iast, i_bast, i_last, i_dast, i_call, i_iret, i_cut, lk, wd, rm1, rm2, pick, popn, catS, pushO, aLV, cond_true, cond_false, Bool.not_true, Bool.not_false, Bool.and_true, Bool.and_false, Bool.true_and, Bool.false_and, eq_self, true_and, and_true, Nat.reduceBEq, Nat.reduceAdd, reduceIte, Nat.reduceEqDiff, SX3_in, SX3_isPlace]
      try simp only [tCnt, aK, aN, aR, eq_self, true_and, and_true, Nat.reduceLeDiff, Nat.reduceEqDiff]
      simp only [b2i_0, h1, h2, h3, h4, nar0, Bool.true_eq_false, not_true_eq_false, not_false_eq_true, true_implies, false_implies, true_and, and_true]
      (repeat (first | refine And.intro hv ?_ | refine And.intro (by decide) ?_))
      exact ⟨n', 0, by omega, by omega, rfl, by rw [mkF_0]; exact hN⟩
  · exact hS.elim
def SX3_take : SP := fun as M post => match as with
  | [.inr (t, i0), .inl (.int p0), .inl (.int f0)] => t = 8 ∧ i0 = 0 ∧ isPl p0 = true ∧ ∃ f, f < 6 ∧ f0 = nI f ∧ post none (m_take M (cl p0) f)
  | _ => False
abbrev rmX3_take : Room := ({ frames := 0, cells := 0, slots := 0, locals := 0 } : Room)
def BX3_take_38 (Qr : Option AV → MM → Prop) (K38 : PT) (lv : LV) (st : List AV) (M : MM) : Prop := (i_iload 3 (i_push (.inl (.int 40)) (i_cmp (fun a b => a < b) (i_aload 0 (i_getR 8 12 (fun _ => 0) (i_push (.inl (.int 40)) (i_iload 1 (i_II (fun a b => a * b) (i_iload 3 (i_II (fun a b => a + b) (i_aload 0 (i_getR 8 17 (fun _ => 0) (i_push (.inl (.int 40)) (i_iload 2 (i_II (fun a b => a * b) (i_iload 3 (i_II (fun a b => a + b) (i_lald (i_last (i_aload 0 (i_getR 8 13 (fun _ => 0) (i_push (.inl (.int 40)) (i_iload 1 (i_II (fun a b => a * b) (i_iload 3 (i_II (fun a b => a + b) (i_aload 0 (i_getR 8 18 (fun _ => 0) (i_push (.inl (.int 40)) (i_iload 2 (i_II (fun a b => a * b) (i_iload 3 (i_II (fun a b => a + b) (i_dald (i_dast (i_iinc 3 1 (i_cut [0, 1, 2, 3] K38)))))))))))))))))))))))))))))))))) (i_vret Qr)))) lv st M
set_option maxRecDepth 100000 in
set_option maxHeartbeats 4000000 in
theorem sBX3_take_38 {p : Program} {l : Launch} {e : Env} {s : State} {m : MethodId} {args : Array Value} {below : List Frame} {meth : Method} {c : Code} {G : Nat → Nat → Nat} {cy dC : Nat → ClassId} {dI : Nat → Nat → Nat} {Qr : Option AV → MM → Prop} {K38 : PT} (F : FX p m c cX3_take 4 RX3 s args (AW G) G cy dC dI) (hr : meth.sig.returnType = none) (hlk : meth.locks = false) (h38 : SO p l e rmX3_take s m args below meth c 0 0 (MQ below (QV G cy dC dI Qr) args s 0 0 (AW G)) 4 (AW G) G cy dC dI 38 K38) : SO p l e rmX3_take s m args below meth c 0 0 (MQ below (QV G cy dC dI Qr) args s 0 0 (AW G)) 4 (AW G) G cy dC dI 38 (BX3_take_38 Qr K38) := by
  exact (s_iload_n F dX3_take_38 rfl (s_bipush F dX3_take_39 (by decide) (s_icmp_ge F dX3_take_41 (by decide) (s_vret F dX3_take_94 hr hlk) (s_aload_n F dX3_take_44 rfl (s_getR F (ci := 3) (f := 4) dX3_take_45 rfl in_X3 (by decide) q471 (fun _ _ _ _ => ⟨_, rfl, rfl⟩) (s_bipush F dX3_take_48 (by decide) (s_iload_n F dX3_take_50 rfl (s_imul F dX3_take_51 (s_iload_n F dX3_take_52 rfl (s_iadd F dX3_take_53 (s_aload_n F dX3_take_54 rfl (s_getR F (ci := 3) (f := 9) dX3_take_55 rfl in_X3 (by decide) q476 (fun _ _ _ _ => ⟨_, rfl, rfl⟩) (s_bipush F dX3_take_58 (by decide) (s_iload_n F dX3_take_60 rfl (s_imul F dX3_take_61 (s_iload_n F dX3_take_62 rfl (s_iadd F dX3_take_63 (s_lald F dX3_take_64 (s_last F dX3_take_65 (s_aload_n F dX3_take_66 rfl (s_getR F (ci := 3) (f := 5) dX3_take_67 rfl in_X3 (by decide) q472 (fun _ _ _ _ => ⟨_, rfl, rfl⟩) (s_bipush F dX3_take_70 (by decide) (s_iload_n F dX3_take_72 rfl (s_imul F dX3_take_73 (s_iload_n F dX3_take_74 rfl (s_iadd F dX3_take_75 (s_aload_n F dX3_take_76 rfl (s_getR F (ci := 3) (f := 10) dX3_take_77 rfl in_X3 (by decide) q477 (fun _ _ _ _ => ⟨_, rfl, rfl⟩) (s_bipush F dX3_take_80 (by decide) (s_iload_n F dX3_take_82 rfl (s_imul F dX3_take_83 (s_iload_n F dX3_take_84 rfl (s_iadd F dX3_take_85 (s_dald F dX3_take_86 (s_dast F dX3_take_87 (s_iinc F dX3_take_88 (by decide) (by decide) (s_goto F dX3_take_91 (by decide) (s_cut [0, 1, 2, 3] h38))))))))))))))))))))))))))))))))))))))
def BX3_take_0 (Qr : Option AV → MM → Prop) (K38 : PT) (lv : LV) (st : List AV) (M : MM) : Prop := (i_aload 0 (i_getR 8 9 (fun _ => 0) (i_iload 1 (i_aload 0 (i_getR 8 14 (fun _ => 0) (i_iload 2 (i_iald 0 (i_iast (i_aload 0 (i_getR 8 10 (fun _ => 0) (i_iload 1 (i_aload 0 (i_getR 8 15 (fun _ => 0) (i_iload 2 (i_iald 0 (i_iast (i_aload 0 (i_getR 8 11 (fun _ => 0) (i_iload 1 (i_aload 0 (i_getR 8 16 (fun _ => 0) (i_iload 2 (i_iald 1 (i_bast (i_push (.inl (.int 0)) (i_istore 3 (i_cut [0, 1, 2, 3] K38))))))))))))))))))))))))))) lv st M
set_option maxRecDepth 100000 in
set_option maxHeartbeats 4000000 in
theorem sBX3_take_0 {p : Program} {l : Launch} {e : Env} {s : State} {m : MethodId} {args : Array Value} {below : List Frame} {meth : Method} {c : Code} {G : Nat → Nat → Nat} {cy dC : Nat → ClassId} {dI : Nat → Nat → Nat} {Qr : Option AV → MM → Prop} {K38 : PT} (F : FX p m c cX3_take 4 RX3 s args (AW G) G cy dC dI) (hr : meth.sig.returnType = none) (hlk : meth.locks = false) (h38 : SO p l e rmX3_take s m args below meth c 0 0 (MQ below (QV G cy dC dI Qr) args s 0 0 (AW G)) 4 (AW G) G cy dC dI 38 K38) : SO p l e rmX3_take s m args below meth c 0 0 (MQ below (QV G cy dC dI Qr) args s 0 0 (AW G)) 4 (AW G) G cy dC dI 0 (BX3_take_0 Qr K38) := by
  exact (s_aload_n F dX3_take_0 rfl (s_getR F (ci := 3) (f := 1) dX3_take_1 rfl in_X3 (by decide) q468 (fun _ _ _ _ => ⟨_, rfl, rfl⟩) (s_iload_n F dX3_take_4 rfl (s_aload_n F dX3_take_5 rfl (s_getR F (ci := 3) (f := 6) dX3_take_6 rfl in_X3 (by decide) q473 (fun _ _ _ _ => ⟨_, rfl, rfl⟩) (s_iload_n F dX3_take_9 rfl (s_iald F dX3_take_10 (s_iast F dX3_take_11 (s_aload_n F dX3_take_12 rfl (s_getR F (ci := 3) (f := 2) dX3_take_13 rfl in_X3 (by decide) q469 (fun _ _ _ _ => ⟨_, rfl, rfl⟩) (s_iload_n F dX3_take_16 rfl (s_aload_n F dX3_take_17 rfl (s_getR F (ci := 3) (f := 7) dX3_take_18 rfl in_X3 (by decide) q474 (fun _ _ _ _ => ⟨_, rfl, rfl⟩) (s_iload_n F dX3_take_21 rfl (s_iald F dX3_take_22 (s_iast F dX3_take_23 (s_aload_n F dX3_take_24 rfl (s_getR F (ci := 3) (f := 3) dX3_take_25 rfl in_X3 (by decide) q470 (fun _ _ _ _ => ⟨_, rfl, rfl⟩) (s_iload_n F dX3_take_28 rfl (s_aload_n F dX3_take_29 rfl (s_getR F (ci := 3) (f := 8) dX3_take_30 rfl in_X3 (by decide) q475 (fun _ _ _ _ => ⟨_, rfl, rfl⟩) (s_iload_n F dX3_take_33 rfl (s_zald F dX3_take_34 (s_bast F dX3_take_35 (s_iconst F dX3_take_36 (by decide) (s_istore_n F dX3_take_37 rfl (by decide) (s_cut [0, 1, 2, 3] h38)))))))))))))))))))))))))))
set_option maxRecDepth 100000 in
set_option maxHeartbeats 4000000 in
theorem ctX3_take (l : Launch) : CV l yX3_take (ws_ yX3_take cX3_take 4 none) rmX3_take SX3_take := by
  refine mk_CV (by decide) ?_
  intro p e s m args below meth c G cy dC dI F hr hlk as M post hS
  unfold SX3_take at hS
  split at hS
  · rename_i t i0 p0 f0
    obtain ⟨rfl, rfl, h1, f, hf, rfl, hS⟩ := hS
    obtain ⟨hv, hp24⟩ := isPl_in h1
    have hvf := vin (n := 6) (i := f) (by omega) (by omega)
    unfold m_take at hS
    generalize hN : sI (sI (sI M 9 0 (cl p0) (M.1 14 0 f)) 10 0 (cl p0) (M.1 15 0 f)) 11 0 (cl p0) (vp_nar .boolean (M.1 16 0 f)) = N at hS
    have hL : ∀ n, SO p l e rmX3_take s m args below meth c 0 0 (MQ below (QV G cy dC dI post) args s 0 0 (AW G)) 4 (AW G) G cy dC dI 38 ((fun (n : Nat) (lv : LV) (st : List AV) (M' : MM) => ∃ i : Nat, i ≤ 40 ∧ n = 40 - i ∧ lv = [(0, .inr (8, 0)), (1, .inl (.int p0)), (2, .inl (.int (nI f))), (3, .inl (.int (nI i)))] ∧ st = [] ∧ M' = tkF N (cl p0) f i) n) := by
      refine SO_loop (fun K => BX3_take_38 post K) (fun K hK => sBX3_take_38 F hr hlk hK) (fun (n : Nat) (lv : LV) (st : List AV) (M' : MM) => ∃ i : Nat, i ≤ 40 ∧ n = 40 - i ∧ lv = [(0, .inr (8, 0)), (1, .inl (.int p0)), (2, .inl (.int (nI f))), (3, .inl (.int (nI i)))] ∧ st = [] ∧ M' = tkF N (cl p0) f i) ?_
      intro n lv st M' ⟨i, hi, hn, e1, e2, e3⟩
      subst e1; subst e2; subst e3
      simp only [BX3_take_0, BX3_take_38, i_push, i_iload, i_aload, i_istore, i_iinc, i_II, i_cmp, i_getR, i_iald, i_lald, i_dald, i_iast, i_bast, i_last, i_dast, i_vret, i_cut, lk, wd, rm1, rm2, pick, popn, catS, pushO, aLV, cond_true, cond_false, Bool.not_true, Bool.not_false, Bool.and_true, Bool.and_false, Bool.true_and, Bool.false_and, eq_self, true_and, and_true, Nat.reduceBEq, Nat.reduceAdd, reduceIte, Nat.reduceEqDiff]
      try simp only [tCnt, aK, aN, aR, eq_self, true_and, and_true, Nat.reduceLeDiff, Nat.reduceEqDiff]
      refine ⟨fun c => ?_, fun c => ?_⟩
      · have hlt : i < 40 := (nI_ltI (by omega) (by omega)).mp c
        simp only [ix40n h1 (show i < 40 by omega), show (40 : Int32) * nI f + nI i = nI (40 * f + i) from by rw [show (40 : Int32) = nI 40 from rfl, pk_mul, nI_add], show (nI (40 * cl p0 + i)).toNatClampNeg = 40 * cl p0 + i from ncl (by omega), show (nI (40 * f + i)).toNatClampNeg = 40 * f + i from ncl (by omega)]
        have hvi := vin (n := 960) (i := 40 * cl p0 + i) (by omega) (by omega)
        have hvj := vin (n := 240) (i := 40 * f + i) (by omega) (by omega)
        (repeat (first | refine And.intro hvi ?_ | refine And.intro hvj ?_ | refine And.intro (by decide) ?_))
        refine ⟨n - 1, by omega, i + 1, by omega, by omega, by rw [nI_1], ?_⟩
        rw [← tkF_1]
        have hh := tkF_h N (cl p0) f i (40 * f + i)
        rw [hh.1]
        congr 1
      · have hge : i = 40 := by
          have := mt (nI_ltI (a := i) (b := 40) (by omega) (by omega)).mpr c
          omega
        subst hge
        exact hS
    refine ⟨by simp only [lk, wd, rm1, rm2, pick, popn, catS, pushO, aLV, cond_true, cond_false, Bool.not_true, Bool.not_false, Bool.and_true, Bool.and_false, Bool.true_and, Bool.false_and, eq_self, true_and, and_true, Nat.reduceBEq, Nat.reduceAdd, reduceIte, Nat.reduceEqDiff]; decide, sBX3_take_0 F hr hlk (SO_or hL) _ _ _ ?_⟩
    simp only [BX3_take_0, BX3_take_38, i_push, i_iload, i_aload, i_istore, i_iinc, i_II, i_cmp, i_getR, i_iald, i_lald, i_dald, i_iast, i_bast, i_last, i_dast, i_vret, i_cut, lk, wd, rm1, rm2, pick, popn, catS, pushO, aLV, cond_true, cond_false, Bool.not_true, Bool.not_false, Bool.and_true, Bool.and_false, Bool.true_and, Bool.false_and, eq_self, true_and, and_true, Nat.reduceBEq, Nat.reduceAdd, reduceIte, Nat.reduceEqDiff]
    try simp only [tCnt, aK, aN, aR, eq_self, true_and, and_true, Nat.reduceLeDiff, Nat.reduceEqDiff]
    simp only [show (nI f).toNatClampNeg = f from ncl (by omega)]
    (repeat (first | refine And.intro hv ?_ | refine And.intro hvf ?_ | refine And.intro (by decide) ?_))
    refine ⟨40, 0, by omega, by omega, rfl, ?_⟩
    rw [tkF_0, ← hN]
    congr 1
  · exact hS.elim
def SX3_sum : SP := fun as M post => match as with
  | [.inr (t, i0), .inl (.int p0), .inl (.int k)] => t = 8 ∧ i0 = 0 ∧ MOK (z0 M) ∧ post (some (.inl (.int (m_sum (z0 M) p0 k)))) (z0 M)
  | _ => False
abbrev rmX3_sum : Room := ({ frames := 2, cells := 0, slots := 0, locals := 120 } : Room)
def BX3_sum_67 (Qr : Option AV → MM → Prop) (K67 : PT) (lv : LV) (st : List AV) (M : MM) : Prop := (i_iload 4 (i_aload 0 (i_getR 8 10 (fun _ => 0) (i_iload 1 (i_iald 0 (i_cmp (fun a b => a < b) (i_iload 3 (i_aload 0 (i_iload 1 (i_iload 4 (i_callV 2 8 SX3_telling (i_L (fun a => .inl (.int a.toInt32)) (i_II (fun a b => a + b) (i_istore 3 (i_iinc 4 1 (i_cut [0, 1, 3, 4] K67)))))))))) (i_iload 3 (i_iret Qr)))))))) lv st M
set_option maxRecDepth 100000 in
set_option maxHeartbeats 4000000 in
theorem sBX3_sum_67 {p : Program} {l : Launch} {e : Env} {s : State} {m : MethodId} {args : Array Value} {below : List Frame} {meth : Method} {c : Code} {G : Nat → Nat → Nat} {cy dC : Nat → ClassId} {dI : Nat → Nat → Nat} {Qr : Option AV → MM → Prop} {K67 : PT} (F : FX p m c cX3_sum 5 RX3 s args (AW G) G cy dC dI) (hr : meth.sig.returnType = (some .int)) (hlk : meth.locks = false) (h67 : SO p l e rmX3_sum s m args below meth c 0 0 (MQ below (QI G cy dC dI Qr) args s 0 0 (AW G)) 5 (AW G) G cy dC dI 67 K67) : SO p l e rmX3_sum s m args below meth c 0 0 (MQ below (QI G cy dC dI Qr) args s 0 0 (AW G)) 5 (AW G) G cy dC dI 67 (BX3_sum_67 Qr K67) := by
  exact (s_iload F dX3_sum_67 (s_aload_n F dX3_sum_69 rfl (s_getR F (ci := 3) (f := 2) dX3_sum_70 rfl in_X3 (by decide) q469 (fun _ _ _ _ => ⟨_, rfl, rfl⟩) (s_iload_n F dX3_sum_73 rfl (s_iald F dX3_sum_74 (s_icmp_ge F dX3_sum_75 (by decide) (s_iload_n F dX3_sum_95 rfl (s_iret F dX3_sum_96 hr hlk)) (s_iload_n F dX3_sum_78 rfl (s_aload_n F dX3_sum_79 rfl (s_iload_n F dX3_sum_80 rfl (s_iload F dX3_sum_81 (s_callVl F dX3_sum_83 (ctX3_telling l) (lw_V q578 q580 qs14 q4 q581) ⟨rfl, rfl⟩ (by decide +kernel) (by decide) ⟨Nat.zero_le _, Nat.zero_le _⟩ (ci := 3) rfl (fun _ _ _ _ => ⟨_, rfl⟩) (s_l2i F dX3_sum_86 (s_iadd F dX3_sum_87 (s_istore_n F dX3_sum_88 rfl (by decide) (s_iinc F dX3_sum_89 (by decide) (by decide) (s_goto F dX3_sum_92 (by decide) (s_cut [0, 1, 3, 4] h67)))))))))))))))))
def BX3_sum_0 (Qr : Option AV → MM → Prop) (K67 : PT) (lv : LV) (st : List AV) (M : MM) : Prop := (i_aload 0 (i_push (.inl (.int 0)) (i_putI 8 0 (i_iload 1 (i_call 1 SX3_isPlace (i_if (fun a => a = 0) (i_push (.inl (.int (-1))) (i_iret Qr)) (i_iload 2 (i_push (.inl (.int 0)) (i_push (.inl (.int 6)) (i_call 3 SX3_in (i_if (fun a => a = 0) (i_push (.inl (.int (-1))) (i_iret Qr)) (i_aload 0 (i_getR 8 9 (fun _ => 0) (i_iload 1 (i_iald 0 (i_push (.inl (.int (-1))) (i_cmp (fun a b => a = b) (i_push (.inl (.int (-11))) (i_iret Qr)) (i_aload 0 (i_getR 8 9 (fun _ => 0) (i_iload 1 (i_iald 0 (i_iload 2 (i_cmp (fun a b => a = b) (i_aload 0 (i_getR 8 11 (fun _ => 0) (i_iload 1 (i_iald 1 (i_if (fun a => a = 0) (i_push (.inl (.int 0)) (i_istore 3 (i_push (.inl (.int 0)) (i_istore 4 (i_cut [0, 1, 3, 4] K67))))) (i_push (.inl (.int (-11))) (i_iret Qr))))))) (i_push (.inl (.int (-15))) (i_iret Qr))))))))))))))))))))))))) lv st M
set_option maxRecDepth 100000 in
set_option maxHeartbeats 4000000 in
theorem sBX3_sum_0 {p : Program} {l : Launch} {e : Env} {s : State} {m : MethodId} {args : Array Value} {below : List Frame} {meth : Method} {c : Code} {G : Nat → Nat → Nat} {cy dC : Nat → ClassId} {dI : Nat → Nat → Nat} {Qr : Option AV → MM → Prop} {K67 : PT} (F : FX p m c cX3_sum 5 RX3 s args (AW G) G cy dC dI) (hr : meth.sig.returnType = (some .int)) (hlk : meth.locks = false) (h67 : SO p l e rmX3_sum s m args below meth c 0 0 (MQ below (QI G cy dC dI Qr) args s 0 0 (AW G)) 5 (AW G) G cy dC dI 67 K67) : SO p l e rmX3_sum s m args below meth c 0 0 (MQ below (QI G cy dC dI Qr) args s 0 0 (AW G)) 5 (AW G) G cy dC dI 0 (BX3_sum_0 Qr K67) := by
  exact (s_aload_n F dX3_sum_0 rfl (s_iconst F dX3_sum_1 (by decide) (s_putI F (ci := 3) dX3_sum_2 rfl in_X3 tyX3 tyX3_ok nmX3 (by decide) q467 rfl (by decide +kernel) (fun _ _ _ _ _ => ⟨_, rfl, Nat.le_of_ble_eq_true rfl, rfl⟩) (s_iload_n F dX3_sum_5 rfl (s_callSi F dX3_sum_6 (ctX3_isPlace l) (lw_S q529 q530 q4 q531) ⟨rfl, rfl⟩ (by decide +kernel) (by decide) ⟨Nat.zero_le _, Nat.zero_le _⟩ (s_if_eq F dX3_sum_9 (by decide) (s_iconst F dX3_sum_22 (by decide) (s_iret F dX3_sum_23 hr hlk)) (s_iload_n F dX3_sum_12 rfl (s_iconst F dX3_sum_13 (by decide) (s_bipush F dX3_sum_14 (by decide) (s_callSi F dX3_sum_16 (ctX3_in l) (lw_S q532 q533 q4 q534) ⟨rfl, rfl⟩ (by decide +kernel) (by decide) ⟨Nat.zero_le _, Nat.zero_le _⟩ (s_if_ne F dX3_sum_19 (by decide) (s_aload_n F dX3_sum_24 rfl (s_getR F (ci := 3) (f := 1) dX3_sum_25 rfl in_X3 (by decide) q468 (fun _ _ _ _ => ⟨_, rfl, rfl⟩) (s_iload_n F dX3_sum_28 rfl (s_iald F dX3_sum_29 (s_iconst F dX3_sum_30 (by decide) (s_icmp_ne F dX3_sum_31 (by decide) (s_aload_n F dX3_sum_37 rfl (s_getR F (ci := 3) (f := 1) dX3_sum_38 rfl in_X3 (by decide) q468 (fun _ _ _ _ => ⟨_, rfl, rfl⟩) (s_iload_n F dX3_sum_41 rfl (s_iald F dX3_sum_42 (s_iload_n F dX3_sum_43 rfl (s_icmp_eq F dX3_sum_44 (by decide) (s_aload_n F dX3_sum_50 rfl (s_getR F (ci := 3) (f := 3) dX3_sum_51 rfl in_X3 (by decide) q470 (fun _ _ _ _ => ⟨_, rfl, rfl⟩) (s_iload_n F dX3_sum_54 rfl (s_zald F dX3_sum_55 (s_if_eq F dX3_sum_56 (by decide) (s_iconst F dX3_sum_62 (by decide) (s_istore_n F dX3_sum_63 rfl (by decide) (s_iconst F dX3_sum_64 (by decide) (s_istore F dX3_sum_65 (by decide) (s_cut [0, 1, 3, 4] h67))))) (s_bipush F dX3_sum_59 (by decide) (s_iret F dX3_sum_61 hr hlk))))))) (s_bipush F dX3_sum_47 (by decide) (s_iret F dX3_sum_49 hr hlk)))))))) (s_bipush F dX3_sum_34 (by decide) (s_iret F dX3_sum_36 hr hlk)))))))) (s_iconst F dX3_sum_22 (by decide) (s_iret F dX3_sum_23 hr hlk)))))))))))))
set_option maxRecDepth 100000 in
set_option maxHeartbeats 4000000 in
theorem ctX3_sum (l : Launch) : CI l yX3_sum (ws_ yX3_sum cX3_sum 5 (some .int)) rmX3_sum SX3_sum := by
  refine mk_CI (by decide) ?_
  intro p e s m args below meth c G cy dC dI F hr hlk as M post hS
  unfold SX3_sum at hS
  split at hS
  · rename_i t i0 p0 k
    obtain ⟨rfl, rfl, hM, hS⟩ := hS
    by_cases hbad : isPl p0 = false ∨ isKN k = false ∨ (z0 M).1 9 0 (cl p0) = -1 ∨ ¬ (z0 M).1 9 0 (cl p0) = k ∨ ¬ (z0 M).1 11 0 (cl p0) = 0
    · refine ⟨by simp only [lk, wd, rm1, rm2, pick, popn, catS, pushO, aLV, cond_true, cond_false, Bool.not_true, Bool.not_false, Bool.and_true, Bool.and_false, Bool.true_and, Bool.false_and, eq_self, true_and, and_true, Nat.reduceBEq, Nat.reduceAdd, reduceIte, Nat.reduceEqDiff]; decide, sBX3_sum_0 F hr hlk SO_no _ _ _ ?_⟩
      simp only [BX3_sum_0, BX3_sum_67, i_push, i_iload, i_aload, i_istore, i_iinc, i_II, i_L, i_if, i_cmp, i_getR, i_putI, i_iald, i_call, i_callV, i_iret, i_cut, lk, wd, rm1, rm2, pick, popn, catS, pushO, aLV, cond_true, cond_false, Bool.not_true, Bool.not_false, Bool.and_true, Bool.and_false, Bool.true_and, Bool.false_and, eq_self, true_and, and_true, Nat.reduceBEq, Nat.reduceAdd, reduceIte, Nat.reduceEqDiff, SX3_in, SX3_isPlace, SX3_telling]
      try simp only [tCnt, aK, aN, aR, eq_self, true_and, and_true, Nat.reduceLeDiff, Nat.reduceEqDiff]
      simp only [b2i_0, Bool.not_eq_true, Bool.not_eq_false]
      simp only [inR_kn]
      have hP1 : isPl p0 = true → vp_in p0 24 := fun h => (isPl_in h).1
      simp only [show sI M 8 0 0 0 = z0 M from rfl]
      generalize z0 M = N at hS hbad hM ⊢
      unfold m_sum at hS
      by_cases h1 : isPl p0 = false
      · rw [if_pos (Or.inl h1)] at hS
        simp only [h1, Bool.false_eq_true, true_implies, false_implies, and_true]
        exact ⟨by decide, hS⟩
      by_cases h2 : isKN k = false
      · rw [if_pos (Or.inr h2)] at hS
        have h1' : isPl p0 = true := by simpa using h1
        simp only [h1', h2, Bool.true_eq_false, Bool.false_eq_true, true_implies, false_implies, true_and, and_true]
        exact ⟨by decide, hS⟩
      rw [if_neg (not_or.mpr ⟨h1, h2⟩)] at hS
      have h1' : isPl p0 = true := by simpa using h1
      have h2' : isKN k = true := by simpa using h2
      have hv := hP1 h1'
      simp only [h1', h2', Bool.true_eq_false, true_implies, false_implies, true_and]
      (repeat (first | refine And.intro hv ?_ | refine And.intro (by decide) ?_))
      by_cases h3 : N.1 9 0 (cl p0) = -1
      · rw [if_pos h3] at hS
        exact ⟨fun _ => hS, fun q => absurd h3 q⟩
      · rw [if_neg h3] at hS
        refine ⟨fun q => absurd q h3, fun _ => ?_⟩
        (repeat (first | refine And.intro hv ?_ | refine And.intro (by decide) ?_))
        by_cases h4 : N.1 9 0 (cl p0) = k
        · rw [if_neg (not_not_intro h4)] at hS
          refine ⟨fun _ => ?_, fun q => absurd h4 q⟩
          (repeat (first | refine And.intro hv ?_ | refine And.intro (by decide) ?_))
          have h5 : ¬ N.1 11 0 (cl p0) = 0 := by
            rcases hbad with q | q | q | q | q
            · exact absurd q h1
            · exact absurd q h2
            · exact absurd q h3
            · exact absurd h4 q
            · exact q
          rw [if_pos h5] at hS
          exact ⟨fun q => absurd q h5, fun _ => hS⟩
        · rw [if_pos h4] at hS
          exact ⟨fun q => absurd q h4, fun _ => hS⟩
    · simp only [not_or, Bool.not_eq_false, Decidable.not_not] at hbad
      obtain ⟨h1, h2, h3, h4, h5⟩ := hbad
      obtain ⟨hv, hp24⟩ := isPl_in h1
      have hc := hM.1 (cl p0) hp24
      have hc40 := mcnt_le hc
      have hx : m_sum (z0 M) p0 k = bx_sum (fun j => (mTel (z0 M) (cl p0) j).toInt32) (mcnt (z0 M) (cl p0)) := by
        unfold m_sum
        rw [if_neg (by rw [h1, h2]; simp), if_neg h3, if_neg (not_not_intro h4), if_neg (not_not_intro h5)]
      rw [hx] at hS
      have hN : ∃ N, N = z0 M := ⟨_, rfl⟩
      obtain ⟨N, hN⟩ := hN
      rw [← hN] at hS h3 h4 h5 hc hc40 hM
      have hL : ∀ n, SO p l e rmX3_sum s m args below meth c 0 0 (MQ below (QI G cy dC dI post) args s 0 0 (AW G)) 5 (AW G) G cy dC dI 67 ((fun (n : Nat) (lv : LV) (st : List AV) (M' : MM) => ∃ i : Nat, i ≤ mcnt N (cl p0) ∧ n = mcnt N (cl p0) - i ∧ lv = [(0, .inr (8, 0)), (1, .inl (.int p0)), (3, .inl (.int (bx_sum (fun j => (mTel N (cl p0) j).toInt32) i))), (4, .inl (.int (nI i)))] ∧ st = [] ∧ M' = N) n) := by
        refine SO_loop (fun K => BX3_sum_67 post K) (fun K hK => sBX3_sum_67 F hr hlk hK) (fun (n : Nat) (lv : LV) (st : List AV) (M' : MM) => ∃ i : Nat, i ≤ mcnt N (cl p0) ∧ n = mcnt N (cl p0) - i ∧ lv = [(0, .inr (8, 0)), (1, .inl (.int p0)), (3, .inl (.int (bx_sum (fun j => (mTel N (cl p0) j).toInt32) i))), (4, .inl (.int (nI i)))] ∧ st = [] ∧ M' = N) ?_
        intro n lv st M' ⟨i, hi, hn, e1, e2, e3⟩
        subst e1; subst e2; subst e3
        simp only [BX3_sum_0, BX3_sum_67, i_push, i_iload, i_aload, i_istore, i_iinc, i_II, i_L, i_if, i_cmp, i_getR, i_putI, i_iald, i_call, i_callV, i_iret, i_cut, lk, wd, rm1, rm2, pick, popn, catS, pushO, aLV, cond_true, cond_false, Bool.not_true, Bool.not_false, Bool.and_true, Bool.and_false, Bool.true_and, Bool.false_and, eq_self, true_and, and_true, Nat.reduceBEq, Nat.reduceAdd, reduceIte, Nat.reduceEqDiff, SX3_in, SX3_isPlace, SX3_telling]
        try simp only [tCnt, aK, aN, aR, eq_self, true_and, and_true, Nat.reduceLeDiff, Nat.reduceEqDiff]
        (repeat (first | refine And.intro hv ?_ | refine And.intro (by decide) ?_))
        refine ⟨fun c => ?_, fun c => ?_⟩
        · rw [mlt_cnt hc (by omega)] at c
          have h0 : ¬ nI i < 0 := nI_pos (by omega)
          have hcl : cl (nI i) = i := ncl (by omega)
          have hi40 : cl (nI i) < 40 := by rw [hcl]; omega
          have hg := hM.2.1 (40 * cl p0 + cl (nI i))
          (repeat (first | refine And.intro hv ?_ | refine And.intro h1 ?_ | refine And.intro h0 ?_ | refine And.intro hi40 ?_ | refine And.intro hg ?_ | refine And.intro (by decide) ?_))
          refine ⟨n - 1, by omega, i + 1, by omega, by omega, ?_⟩
          rw [hcl, nI_1]
          rfl
        · rw [mlt_cnt hc (by omega)] at c
          rw [show mcnt M' (cl p0) = i by omega] at hS
          exact hS
      refine ⟨by simp only [lk, wd, rm1, rm2, pick, popn, catS, pushO, aLV, cond_true, cond_false, Bool.not_true, Bool.not_false, Bool.and_true, Bool.and_false, Bool.true_and, Bool.false_and, eq_self, true_and, and_true, Nat.reduceBEq, Nat.reduceAdd, reduceIte, Nat.reduceEqDiff]; decide, sBX3_sum_0 F hr hlk (SO_or hL) _ _ _ ?_⟩
      simp only [BX3_sum_0, BX3_sum_67, i_push, i_iload, i_aload, i_istore, i_iinc, i_II, i_L, i_if, i_cmp, i_getR, i_putI, i_iald, i_call, i_callV, i_iret, i_cut, lk, wd, rm1, rm2, pick, popn, catS, pushO, aLV, cond_true, cond_false, Bool.not_true, Bool.not_false, Bool.and_true, Bool.and_false, Bool.true_and, Bool.false_and, eq_self, true_and, and_true, Nat.reduceBEq, Nat.reduceAdd, reduceIte, Nat.reduceEqDiff, SX3_in, SX3_isPlace, SX3_telling]
      try simp only [tCnt, aK, aN, aR, eq_self, true_and, and_true, Nat.reduceLeDiff, Nat.reduceEqDiff]
      simp only [b2i_0]
      simp only [inR_kn]
      simp only [h1, h2, Bool.true_eq_false, not_true_eq_false, not_false_eq_true, true_implies, false_implies, true_and, and_true]
      simp only [show sI M 8 0 0 0 = z0 M from rfl, ← hN]
      (repeat (first | refine And.intro hv ?_ | refine And.intro (by decide) ?_))
      refine ⟨fun q => absurd q h3, fun _ => ?_⟩
      (repeat (first | refine And.intro hv ?_ | refine And.intro (by decide) ?_))
      refine ⟨fun _ => ?_, fun q => absurd h4 q⟩
      (repeat (first | refine And.intro hv ?_ | refine And.intro (by decide) ?_))
      refine ⟨fun _ => ?_, fun q => absurd h5 q⟩
      exact ⟨mcnt N (cl p0), 0, by omega, by omega, by first | exact ⟨rfl, trivial⟩ | exact ⟨trivial, hN.symm⟩ | exact ⟨trivial, rfl⟩ | exact ⟨rfl, hN.symm⟩ | exact ⟨rfl, rfl⟩ | rfl⟩
  · exact hS.elim
