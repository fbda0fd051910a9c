def m_part (N : MM) (z w : Int32) : Int32 × MM := if inR z 0 2 = false ∨ inR w 0 1000 = false then (-1, N) else if N.1 8 0 11 = 40 then (-2, N) else (N.1 8 0 11 + 1 - 1, sI (sI (sI (sI N 19 0 (cl (N.1 8 0 11)) z) 20 0 (cl (N.1 8 0 11)) w) 22 0 (cl (N.1 8 0 11)) (-1)) 8 0 11 (N.1 8 0 11 + 1))
def m_fault (N : MM) (j c : Int32) : Int32 × MM := if inR j 0 (N.1 8 0 11 - 1) = false ∨ inR c (-1) 9 = false then (-1, N) else (1, sI N 22 0 (cl j) c)
def mRea (a n c : Int32) : Bool := !decide (a < 0) && (!decide (c < a) && !decide (c - a < n))
def m_put (N : MM) (p i : Int32) (v : Int64) : Int32 × MM := if isPl p = false then (-1, N) else if ¬ mWay N (cl p) 0 = 0 then (mWay N (cl p) 0, N) else if mHas N (cl p) i = false then (-12, N) else (1, if N.1 9 0 (cl p) = 5 then sD N 13 0 (40 * cl p + cl i) (FP.f2d (FP.fdiv (FP.l2f v) f8)) else if N.1 9 0 (cl p) = 6 then sD N 13 0 (40 * cl p + cl i) (FP.ddiv (FP.l2d v) c8) else sL N 12 0 (40 * cl p + cl i) (mLow (N.1 9 0 (cl p)) v))
/-- what get's code is -/
def m_gc (N : MM) (p i : Int32) : Int32 := if isPl p = false then 2 else if mNone N (cl p) = true then 1 else if mHas N (cl p) i = false then 2 else if ¬ N.1 9 0 (cl p) < 7 ∧ lg_cmp (N.2.1 12 0 (40 * cl p + cl i)) 0 < 0 then 1 else 0
def m_wt (N : MM) (p i : Int32) : Int32 := if isPl p = false then -1 else if ¬ mWay N (cl p) 1 = 0 then mWay N (cl p) 1 else if mHas N (cl p) i = false then -12 else if lg_cmp (N.2.1 12 0 (40 * cl p + cl i)) 0 < 0 then -11 else 0
/-- the number of the part in a cell -/
abbrev mPN (N : MM) (p i : Int32) : Nat := cl (N.2.1 12 0 (40 * cl p + cl i)).toInt32
def m_weigh (N : MM) (p i : Int32) : Int32 := if ¬ m_wt N p i = 0 then m_wt N p i else if N.1 19 0 (mPN N p i) = 0 then N.1 20 0 (mPN N p i) else if N.1 19 0 (mPN N p i) = 1 then N.1 20 0 (mPN N p i) + 3 * N.1 21 0 (mPN N p i) else N.1 20 0 (mPN N p i) / 2 + (N.1 21 0 (mPN N p i) + 1) / 2
def m_rigid (N : MM) (p i : Int32) : Int32 := if ¬ m_wt N p i = 0 then m_wt N p i else if N.1 19 0 (mPN N p i) = 1 then N.1 21 0 (mPN N p i) else -15
def m_raise (N : MM) (p i : Int32) : Int32 := if ¬ m_wt N p i = 0 then m_wt N p i else if N.1 22 0 (mPN N p i) < 0 then -11 else -30 - N.1 22 0 (mPN N p i)
def m_lay (N : MM) (p i j : Int32) : Int32 × MM := if isPl p = false ∨ inR j (-1) (N.1 8 0 11 - 1) = false then (-1, N) else if ¬ mWay N (cl p) 1 = 0 then (mWay N (cl p) 1, N) else if mHas N (cl p) i = false then (-12, N) else if mTak N (N.1 9 0 (cl p)) j.toInt64 = false then (-14, N) else if j < 0 then (1, sL N 12 0 (40 * cl p + cl i) j.toInt64) else (1, sI (sL N 12 0 (40 * cl p + cl i) j.toInt64) 21 0 (cl j) (N.1 21 0 (cl j) + 1))
theorem mp_in {N : MM} (hM : ∃ n, n ≤ 40 ∧ N.1 8 0 11 = nI n) (h : ¬ N.1 8 0 11 = 40) : vp_in (N.1 8 0 11) 40 := by
  obtain ⟨n, hn, e⟩ := hM
  rw [e] at h ⊢
  exact vin (by
    have : n ≠ 40 := fun q => h (by rw [q]; rfl)
    omega) (by omega)
theorem mj_lt {N : MM} {j : Int32} (hM : ∃ n, n ≤ 40 ∧ N.1 8 0 11 = nI n) (h0 : ¬ j < 0) (h : ¬ N.1 8 0 11 - 1 < j) : vp_in j 40 ∧ cl j < 40 := by
  obtain ⟨n, hn, e⟩ := hM
  rw [e, Int32.lt_iff_toInt_lt, Int32.toInt_sub, nI_toInt (by omega)] at h
  have e1 : (1 : Int32).toInt = 1 := by decide
  have e32 : (2 ^ 32 : Nat) = 4294967296 := by decide
  rw [e1, e32] at h
  have eb : ((n : Int) - 1).bmod 4294967296 = (n : Int) - 1 := by
    rw [Int.bmod_def]
    split <;> omega
  rw [eb] at h
  refine vp_of h0 ?_
  omega
theorem mj_in {N : MM} {j : Int32} (hM : ∃ n, n ≤ 40 ∧ N.1 8 0 11 = nI n) (h : inR j 0 (N.1 8 0 11 - 1) = true) : vp_in j 40 := by
  simp only [inR, Bool.and_eq_true, Bool.not_eq_true', decide_eq_false_iff_not] at h
  exact (mj_lt hM h.1 h.2).1
theorem mj_in2 {N : MM} {j : Int32} (hM : ∃ n, n ≤ 40 ∧ N.1 8 0 11 = nI n) (h : inR j (-1) (N.1 8 0 11 - 1) = true) (h0 : ¬ j < 0) : vp_in j 40 := by
  simp only [inR, Bool.and_eq_true, Bool.not_eq_true', decide_eq_false_iff_not] at h
  exact (mj_lt hM h0 h.2).1
theorem pOK_in {v : Int64} (h : pOK v) (h0 : ¬ lg_cmp v 0 < 0) : vp_in v.toInt32 40 := by
  rcases h with h | ⟨j, hj, rfl⟩
  · rw [lg_cmp_lt] at h0
    exact absurd h h0
  · rw [lN_i]
    exact vin hj (by omega)
theorem long_lt0 {j : Int32} : (lg_cmp j.toInt64 0 < 0) = (j < 0) := by
  rw [lg_cmp_lt, Int64.lt_iff_toInt_lt, Int32.lt_iff_toInt_lt, Int32.toInt_toInt64]
  rfl
theorem back32 (j : Int32) : j.toInt64.toInt32 = j := by simp

def SX3_takes : SP := fun as M post => match as with
  | [.inr (t, i0), .inl (.int k), .inl (.long v)] => t = 8 ∧ i0 = 0 ∧ (¬ lg_cmp v 0 < 0 → vp_in v.toInt32 40) ∧ post (some (.inl (.int (b2i (mTak M k v = true))))) M
  | _ => False
abbrev rmX3_takes : Room := ({ frames := 0, cells := 0, slots := 0, locals := 0 } : Room)
def BX3_takes_0 (Qr : Option AV → MM → Prop) (lv : LV) (st : List AV) (M : MM) : Prop := (i_lload 2 (i_push (.inl (.long 0)) (i_lcmp (i_if (fun a => a < 0) (i_push (.inl (.int 1)) (i_zret Qr)) (i_iload 1 (i_push (.inl (.int 7)) (i_cmp (fun a b => a = b) (i_push (.inl (.int 1)) (i_zret Qr)) (i_aload 0 (i_getR 8 19 (fun _ => 0) (i_lload 2 (i_L (fun a => .inl (.int a.toInt32)) (i_iald 0 (i_iload 1 (i_push (.inl (.int 7)) (i_II (fun a b => a - b) (i_cmp (fun a b => a = b) (i_push (.inl (.int 1)) (i_zret Qr)) (i_push (.inl (.int 0)) (i_zret Qr)))))))))))))))))) lv st M
set_option maxRecDepth 100000 in
set_option maxHeartbeats 4000000 in
theorem sBX3_takes_0 {p : Program} {l : Launch} {e : Env} {s : State} {m : MethodId} {args : Array Value} {below : List Frame} {meth : Method} {c : Code} {G : Nat → Nat → Nat} {cy dC : Nat → ClassId} {dI : Nat → Nat → Nat} {Qr : Option AV → MM → Prop} (F : FX p m c cX3_takes 4 RX3 s args (AW G) G cy dC dI) (hr : meth.sig.returnType = (some .boolean)) (hlk : meth.locks = false) : SO p l e rmX3_takes s m args below meth c 0 0 (MQ below (QI G cy dC dI Qr) args s 0 0 (AW G)) 4 (AW G) G cy dC dI 0 (BX3_takes_0 Qr) := by
  exact (s_lload_n F dX3_takes_0 rfl (s_lconst F dX3_takes_1 (by decide) (s_lcmp F dX3_takes_2 (s_if_lt F dX3_takes_3 (by decide) (s_iconst F dX3_takes_26 (by decide) (s_goto F dX3_takes_27 (by decide) (s_zret F dX3_takes_31 hr hlk))) (s_iload_n F dX3_takes_6 rfl (s_bipush F dX3_takes_7 (by decide) (s_icmp_eq F dX3_takes_9 (by decide) (s_iconst F dX3_takes_26 (by decide) (s_goto F dX3_takes_27 (by decide) (s_zret F dX3_takes_31 hr hlk))) (s_aload_n F dX3_takes_12 rfl (s_getR F (ci := 3) (f := 12) dX3_takes_13 rfl in_X3 (by decide) q479 (fun _ _ _ _ => ⟨_, rfl, rfl⟩) (s_lload_n F dX3_takes_16 rfl (s_l2i F dX3_takes_17 (s_iald F dX3_takes_18 (s_iload_n F dX3_takes_19 rfl (s_bipush F dX3_takes_20 (by decide) (s_isub F dX3_takes_22 (s_icmp_ne F dX3_takes_23 (by decide) (s_iconst F dX3_takes_30 (by decide) (s_zret F dX3_takes_31 hr hlk)) (s_iconst F dX3_takes_26 (by decide) (s_goto F dX3_takes_27 (by decide) (s_zret F dX3_takes_31 hr hlk)))))))))))))))))))
set_option maxRecDepth 100000 in
set_option maxHeartbeats 4000000 in
theorem ctX3_takes (l : Launch) : CI l yX3_takes (ws_ yX3_takes cX3_takes 4 (some .boolean)) rmX3_takes SX3_takes := by
  refine mk_CI (by decide) ?_
  intro p e s m args below meth c G cy dC dI F hr hlk as M post hS
  unfold SX3_takes at hS
  split at hS
  · rename_i t i0 k v
    obtain ⟨rfl, rfl, hv, hS⟩ := hS
    refine ⟨by simp only [lk, wd, rm1, rm2, pick, popn, catS, pushO, aLV, cond_true, cond_false, Bool.not_true, Bool.not_false, Bool.and_true, Bool.and_false, Bool.true_and, Bool.false_and, eq_self, true_and, and_true, Nat.reduceBEq, Nat.reduceAdd, reduceIte, Nat.reduceEqDiff]; decide, sBX3_takes_0 F hr hlk _ _ _ ?_⟩
    simp only [BX3_takes_0, i_push, i_iload, i_lload, i_aload, i_II, i_lcmp, i_L, i_if, i_cmp, i_getR, i_iald, i_zret, lk, wd, rm1, rm2, pick, popn, catS, pushO, aLV, cond_true, cond_false, Bool.not_true, Bool.not_false, Bool.and_true, Bool.and_false, Bool.true_and, Bool.false_and, eq_self, true_and, and_true, Nat.reduceBEq, Nat.reduceAdd, reduceIte, Nat.reduceEqDiff]
    try simp only [tCnt, aK, aN, aR, eq_self, true_and, and_true, Nat.reduceLeDiff, Nat.reduceEqDiff]
    (try simp only [b2i_0, Bool.not_eq_true, Bool.not_eq_false])
    (repeat' (first | with_reducible assumption | exact b2i_1 _ | exact hv (by with_reducible assumption) | apply And.intro | intro _)) <;> (first | with_reducible assumption | decide | (simpa [mTak, b2i, *] using hS) | (simp_all [mTak, b2i]; done))
  · exact hS.elim
def SX3_reaches : SP := fun as M post => match as with
  | [.inl (.int a), .inl (.int n), .inl (.int c)] => post (some (.inl (.int (b2i (mRea a n c = true))))) M
  | _ => False
abbrev rmX3_reaches : Room := ({ frames := 0, cells := 0, slots := 0, locals := 0 } : Room)
def BX3_reaches_0 (Qr : Option AV → MM → Prop) (lv : LV) (st : List AV) (M : MM) : Prop := (i_iload 0 (i_if (fun a => a < 0) (i_push (.inl (.int 0)) (i_zret Qr)) (i_iload 0 (i_iload 2 (i_cmp (fun a b => b < a) (i_push (.inl (.int 0)) (i_zret Qr)) (i_iload 1 (i_iload 2 (i_iload 0 (i_II (fun a b => a - b) (i_cmp (fun a b => b < a) (i_push (.inl (.int 0)) (i_zret Qr)) (i_push (.inl (.int 1)) (i_zret Qr)))))))))))) lv st M
set_option maxRecDepth 100000 in
set_option maxHeartbeats 4000000 in
theorem sBX3_reaches_0 {p : Program} {l : Launch} {e : Env} {s : State} {m : MethodId} {args : Array Value} {below : List Frame} {meth : Method} {c : Code} {G : Nat → Nat → Nat} {cy dC : Nat → ClassId} {dI : Nat → Nat → Nat} {Qr : Option AV → MM → Prop} (F : FX p m c cX3_reaches 3 RX3 s args (AW G) G cy dC dI) (hr : meth.sig.returnType = (some .boolean)) (hlk : meth.locks = false) : SO p l e rmX3_reaches s m args below meth c 0 0 (MQ below (QI G cy dC dI Qr) args s 0 0 (AW G)) 3 (AW G) G cy dC dI 0 (BX3_reaches_0 Qr) := by
  exact (s_iload_n F dX3_reaches_0 rfl (s_if_lt F dX3_reaches_1 (by decide) (s_iconst F dX3_reaches_20 (by decide) (s_zret F dX3_reaches_21 hr hlk)) (s_iload_n F dX3_reaches_4 rfl (s_iload_n F dX3_reaches_5 rfl (s_icmp_gt F dX3_reaches_6 (by decide) (s_iconst F dX3_reaches_20 (by decide) (s_zret F dX3_reaches_21 hr hlk)) (s_iload_n F dX3_reaches_9 rfl (s_iload_n F dX3_reaches_10 rfl (s_iload_n F dX3_reaches_11 rfl (s_isub F dX3_reaches_12 (s_icmp_gt F dX3_reaches_13 (by decide) (s_iconst F dX3_reaches_20 (by decide) (s_zret F dX3_reaches_21 hr hlk)) (s_iconst F dX3_reaches_16 (by decide) (s_goto F dX3_reaches_17 (by decide) (s_zret F dX3_reaches_21 hr hlk)))))))))))))
set_option maxRecDepth 100000 in
set_option maxHeartbeats 4000000 in
theorem ctX3_reaches (l : Launch) : CI l yX3_reaches (ws_ yX3_reaches cX3_reaches 3 (some .boolean)) rmX3_reaches SX3_reaches := by
  refine mk_CI (by decide) ?_
  intro p e s m args below meth c G cy dC dI F hr hlk as M post hS
  unfold SX3_reaches at hS
  split at hS
  · refine ⟨by simp only [lk, wd, rm1, rm2, pick, popn, catS, pushO, aLV, cond_true, cond_false, Bool.not_true, Bool.not_false, Bool.and_true, Bool.and_false, Bool.true_and, Bool.false_and, eq_self, true_and, and_true, Nat.reduceBEq, Nat.reduceAdd, reduceIte, Nat.reduceEqDiff]; decide, sBX3_reaches_0 F hr hlk _ _ _ ?_⟩
    simp only [BX3_reaches_0, i_push, i_iload, i_II, i_if, i_cmp, i_zret, lk, wd, rm1, rm2, pick, popn, catS, pushO, aLV, cond_true, cond_false, Bool.not_true, Bool.not_false, Bool.and_true, Bool.and_false, Bool.true_and, Bool.false_and, eq_self, true_and, and_true, Nat.reduceBEq, Nat.reduceAdd, reduceIte, Nat.reduceEqDiff]
    try simp only [tCnt, aK, aN, aR, eq_self, true_and, and_true, Nat.reduceLeDiff, Nat.reduceEqDiff]
    (repeat' (first | assumption | exact b2i_1 _ | apply And.intro | intro _)) <;> (first | assumption | decide | (simpa [mRea, b2i, *] using hS) | (simp_all [b2i, mRea, b2i]; done))
  · exact hS.elim
def SX3_part : SP := fun as M post => match as with
  | [.inr (t, i0), .inl (.int z), .inl (.int w)] => t = 8 ∧ i0 = 0 ∧ MOK (z0 M) ∧ post (some (.inl (.int (m_part (z0 M) z w).1))) (m_part (z0 M) z w).2
  | _ => False
abbrev rmX3_part : Room := ({ frames := 1, cells := 0, slots := 0, locals := 60 } : Room)
def BX3_part_0 (Qr : Option AV → MM → Prop) (lv : LV) (st : List AV) (M : MM) : Prop := (i_aload 0 (i_push (.inl (.int 0)) (i_putI 8 0 (i_iload 1 (i_push (.inl (.int 0)) (i_push (.inl (.int 2)) (i_call 3 SX3_in (i_if (fun a => a = 0) (i_push (.inl (.int (-1))) (i_iret Qr)) (i_iload 2 (i_push (.inl (.int 0)) (i_push (.inl (.int 1000)) (i_call 3 SX3_in (i_if (fun a => a = 0) (i_push (.inl (.int (-1))) (i_iret Qr)) (i_aload 0 (i_getI 8 11 (i_push (.inl (.int 40)) (i_cmp (fun a b => a = b) (i_push (.inl (.int (-2))) (i_iret Qr)) (i_aload 0 (i_getR 8 19 (fun _ => 0) (i_aload 0 (i_getI 8 11 (i_iload 1 (i_iast (i_aload 0 (i_getR 8 20 (fun _ => 0) (i_aload 0 (i_getI 8 11 (i_iload 2 (i_iast (i_aload 0 (i_getR 8 22 (fun _ => 0) (i_aload 0 (i_getI 8 11 (i_push (.inl (.int (-1))) (i_iast (i_aload 0 (i_dup (i_getI 8 11 (i_push (.inl (.int 1)) (i_II (fun a b => a + b) (i_putI 8 11 (i_aload 0 (i_getI 8 11 (i_push (.inl (.int 1)) (i_II (fun a b => a - b) (i_iret Qr)))))))))))))))))))))))))))))))))))))))))))))) lv st M
set_option maxRecDepth 100000 in
set_option maxHeartbeats 4000000 in
theorem sBX3_part_0 {p : Program} {l : Launch} {e : Env} {s : State} {m : MethodId} {args : Array Value} {below : List Frame} {meth : Method} {c : Code} {G : Nat → Nat → Nat} {cy dC : Nat → ClassId} {dI : Nat → Nat → Nat} {Qr : Option AV → MM → Prop} (F : FX p m c cX3_part 3 RX3 s args (AW G) G cy dC dI) (hr : meth.sig.returnType = (some .int)) (hlk : meth.locks = false) : SO p l e rmX3_part s m args below meth c 0 0 (MQ below (QI G cy dC dI Qr) args s 0 0 (AW G)) 3 (AW G) G cy dC dI 0 (BX3_part_0 Qr) := by
  exact (s_aload_n F dX3_part_0 rfl (s_iconst F dX3_part_1 (by decide) (s_putI F (ci := 3) dX3_part_2 rfl in_X3 tyX3 tyX3_ok nmX3 (by decide) q467 rfl (by decide +kernel) (fun _ _ _ _ _ => ⟨_, rfl, Nat.le_of_ble_eq_true rfl, rfl⟩) (s_iload_n F dX3_part_5 rfl (s_iconst F dX3_part_6 (by decide) (s_iconst F dX3_part_7 (by decide) (s_callSi F dX3_part_8 (ctX3_in l) (lw_S q532 q533 q4 q534) ⟨rfl, rfl⟩ (by decide +kernel) (by decide) ⟨Nat.zero_le _, Nat.zero_le _⟩ (s_if_eq F dX3_part_11 (by decide) (s_iconst F dX3_part_25 (by decide) (s_iret F dX3_part_26 hr hlk)) (s_iload_n F dX3_part_14 rfl (s_iconst F dX3_part_15 (by decide) (s_sipush F dX3_part_16 (by decide) (s_callSi F dX3_part_19 (ctX3_in l) (lw_S q532 q533 q4 q534) ⟨rfl, rfl⟩ (by decide +kernel) (by decide) ⟨Nat.zero_le _, Nat.zero_le _⟩ (s_if_ne F dX3_part_22 (by decide) (s_aload_n F dX3_part_27 rfl (s_getI F (ci := 3) dX3_part_28 rfl in_X3 (by decide) q478 (fun _ _ _ _ => ⟨_, rfl, rfl⟩) (s_bipush F dX3_part_31 (by decide) (s_icmp_ne F dX3_part_33 (by decide) (s_aload_n F dX3_part_39 rfl (s_getR F (ci := 3) (f := 12) dX3_part_40 rfl in_X3 (by decide) q479 (fun _ _ _ _ => ⟨_, rfl, rfl⟩) (s_aload_n F dX3_part_43 rfl (s_getI F (ci := 3) dX3_part_44 rfl in_X3 (by decide) q478 (fun _ _ _ _ => ⟨_, rfl, rfl⟩) (s_iload_n F dX3_part_47 rfl (s_iast F dX3_part_48 (s_aload_n F dX3_part_49 rfl (s_getR F (ci := 3) (f := 13) dX3_part_50 rfl in_X3 (by decide) q480 (fun _ _ _ _ => ⟨_, rfl, rfl⟩) (s_aload_n F dX3_part_53 rfl (s_getI F (ci := 3) dX3_part_54 rfl in_X3 (by decide) q478 (fun _ _ _ _ => ⟨_, rfl, rfl⟩) (s_iload_n F dX3_part_57 rfl (s_iast F dX3_part_58 (s_aload_n F dX3_part_59 rfl (s_getR F (ci := 3) (f := 15) dX3_part_60 rfl in_X3 (by decide) q482 (fun _ _ _ _ => ⟨_, rfl, rfl⟩) (s_aload_n F dX3_part_63 rfl (s_getI F (ci := 3) dX3_part_64 rfl in_X3 (by decide) q478 (fun _ _ _ _ => ⟨_, rfl, rfl⟩) (s_iconst F dX3_part_67 (by decide) (s_iast F dX3_part_68 (s_aload_n F dX3_part_69 rfl (s_dup F dX3_part_70 (s_getI F (ci := 3) dX3_part_71 rfl in_X3 (by decide) q478 (fun _ _ _ _ => ⟨_, rfl, rfl⟩) (s_iconst F dX3_part_74 (by decide) (s_iadd F dX3_part_75 (s_putI F (ci := 3) dX3_part_76 rfl in_X3 tyX3 tyX3_ok nmX3 (by decide) q478 rfl (by decide +kernel) (fun _ _ _ _ _ => ⟨_, rfl, Nat.le_of_ble_eq_true rfl, rfl⟩) (s_aload_n F dX3_part_79 rfl (s_getI F (ci := 3) dX3_part_80 rfl in_X3 (by decide) q478 (fun _ _ _ _ => ⟨_, rfl, rfl⟩) (s_iconst F dX3_part_83 (by decide) (s_isub F dX3_part_84 (s_iret F dX3_part_85 hr hlk))))))))))))))))))))))))))))) (s_bipush F dX3_part_36 (by decide) (s_iret F dX3_part_38 hr hlk)))))) (s_iconst F dX3_part_25 (by decide) (s_iret F dX3_part_26 hr hlk)))))))))))))))
set_option maxRecDepth 100000 in
set_option maxHeartbeats 4000000 in
theorem ctX3_part (l : Launch) : CI l yX3_part (ws_ yX3_part cX3_part 3 (some .int)) rmX3_part SX3_part := by
  refine mk_CI (by decide) ?_
  intro p e s m args below meth c G cy dC dI F hr hlk as M post hS
  unfold SX3_part at hS
  split at hS
  · rename_i t i0 z w
    obtain ⟨rfl, rfl, hM, hS⟩ := hS
    refine ⟨by simp only [lk, wd, rm1, rm2, pick, popn, catS, pushO, aLV, cond_true, cond_false, Bool.not_true, Bool.not_false, Bool.and_true, Bool.and_false, Bool.true_and, Bool.false_and, eq_self, true_and, and_true, Nat.reduceBEq, Nat.reduceAdd, reduceIte, Nat.reduceEqDiff]; decide, sBX3_part_0 F hr hlk _ _ _ ?_⟩
    simp only [BX3_part_0, i_push, i_iload, i_aload, i_II, i_dup, i_if, i_cmp, i_getI, i_getR, i_putI, i_iast, i_call, i_iret, lk, wd, rm1, rm2, pick, popn, catS, pushO, aLV, cond_true, cond_false, Bool.not_true, Bool.not_false, Bool.and_true, Bool.and_false, Bool.true_and, Bool.false_and, eq_self, true_and, and_true, Nat.reduceBEq, Nat.reduceAdd, reduceIte, Nat.reduceEqDiff, SX3_in]
    try simp only [tCnt, aK, aN, aR, eq_self, true_and, and_true, Nat.reduceLeDiff, Nat.reduceEqDiff]
    (try simp only [b2i_0, Bool.not_eq_true, Bool.not_eq_false]); (try simp only [show sI M 8 0 0 0 = z0 M from rfl]); generalize hN : z0 M = N at hS hM ⊢
    (try simp only [nar0, nar1])
    have hQ : ¬ N.1 8 0 11 = 40 → vp_in (N.1 8 0 11) 40 := mp_in hM.2.2.1
    simp only [sI_o (show ¬ (8 : Nat) = 19 by decide), sI_o (show ¬ (8 : Nat) = 20 by decide), sI_o (show ¬ (8 : Nat) = 22 by decide), sI_s]
    (try simp only [b2i_0, Bool.not_eq_true, Bool.not_eq_false])
    (repeat' (first | with_reducible assumption | exact b2i_1 _ | exact hQ (by with_reducible assumption) | apply And.intro | intro _)) <;> (first | with_reducible assumption | decide | (simpa [m_part, *] using hS) | (simp_all [m_part]; done))
  · exact hS.elim
def SX3_fault : SP := fun as M post => match as with
  | [.inr (t, i0), .inl (.int j), .inl (.int k)] => t = 8 ∧ i0 = 0 ∧ MOK (z0 M) ∧ post (some (.inl (.int (m_fault (z0 M) j k).1))) (m_fault (z0 M) j k).2
  | _ => False
abbrev rmX3_fault : Room := ({ frames := 1, cells := 0, slots := 0, locals := 60 } : Room)
def BX3_fault_0 (Qr : Option AV → MM → Prop) (lv : LV) (st : List AV) (M : MM) : Prop := (i_aload 0 (i_push (.inl (.int 0)) (i_putI 8 0 (i_iload 1 (i_push (.inl (.int 0)) (i_aload 0 (i_getI 8 11 (i_push (.inl (.int 1)) (i_II (fun a b => a - b) (i_call 3 SX3_in (i_if (fun a => a = 0) (i_push (.inl (.int (-1))) (i_iret Qr)) (i_iload 2 (i_push (.inl (.int (-1))) (i_push (.inl (.int 9)) (i_call 3 SX3_in (i_if (fun a => a = 0) (i_push (.inl (.int (-1))) (i_iret Qr)) (i_aload 0 (i_getR 8 22 (fun _ => 0) (i_iload 1 (i_iload 2 (i_iast (i_push (.inl (.int 1)) (i_iret Qr))))))))))))))))))))))) lv st M
set_option maxRecDepth 100000 in
set_option maxHeartbeats 4000000 in
theorem sBX3_fault_0 {p : Program} {l : Launch} {e : Env} {s : State} {m : MethodId} {args : Array Value} {below : List Frame} {meth : Method} {c : Code} {G : Nat → Nat → Nat} {cy dC : Nat → ClassId} {dI : Nat → Nat → Nat} {Qr : Option AV → MM → Prop} (F : FX p m c cX3_fault 3 RX3 s args (AW G) G cy dC dI) (hr : meth.sig.returnType = (some .int)) (hlk : meth.locks = false) : SO p l e rmX3_fault s m args below meth c 0 0 (MQ below (QI G cy dC dI Qr) args s 0 0 (AW G)) 3 (AW G) G cy dC dI 0 (BX3_fault_0 Qr) := by
  exact (s_aload_n F dX3_fault_0 rfl (s_iconst F dX3_fault_1 (by decide) (s_putI F (ci := 3) dX3_fault_2 rfl in_X3 tyX3 tyX3_ok nmX3 (by decide) q467 rfl (by decide +kernel) (fun _ _ _ _ _ => ⟨_, rfl, Nat.le_of_ble_eq_true rfl, rfl⟩) (s_iload_n F dX3_fault_5 rfl (s_iconst F dX3_fault_6 (by decide) (s_aload_n F dX3_fault_7 rfl (s_getI F (ci := 3) dX3_fault_8 rfl in_X3 (by decide) q478 (fun _ _ _ _ => ⟨_, rfl, rfl⟩) (s_iconst F dX3_fault_11 (by decide) (s_isub F dX3_fault_12 (s_callSi F dX3_fault_13 (ctX3_in l) (lw_S q532 q533 q4 q534) ⟨rfl, rfl⟩ (by decide +kernel) (by decide) ⟨Nat.zero_le _, Nat.zero_le _⟩ (s_if_eq F dX3_fault_16 (by decide) (s_iconst F dX3_fault_29 (by decide) (s_iret F dX3_fault_30 hr hlk)) (s_iload_n F dX3_fault_19 rfl (s_iconst F dX3_fault_20 (by decide) (s_bipush F dX3_fault_21 (by decide) (s_callSi F dX3_fault_23 (ctX3_in l) (lw_S q532 q533 q4 q534) ⟨rfl, rfl⟩ (by decide +kernel) (by decide) ⟨Nat.zero_le _, Nat.zero_le _⟩ (s_if_ne F dX3_fault_26 (by decide) (s_aload_n F dX3_fault_31 rfl (s_getR F (ci := 3) (f := 15) dX3_fault_32 rfl in_X3 (by decide) q482 (fun _ _ _ _ => ⟨_, rfl, rfl⟩) (s_iload_n F dX3_fault_35 rfl (s_iload_n F dX3_fault_36 rfl (s_iast F dX3_fault_37 (s_iconst F dX3_fault_38 (by decide) (s_iret F dX3_fault_39 hr hlk))))))) (s_iconst F dX3_fault_29 (by decide) (s_iret F dX3_fault_30 hr hlk))))))))))))))))))
set_option maxRecDepth 100000 in
set_option maxHeartbeats 4000000 in
theorem ctX3_fault (l : Launch) : CI l yX3_fault (ws_ yX3_fault cX3_fault 3 (some .int)) rmX3_fault SX3_fault := by
  refine mk_CI (by decide) ?_
  intro p e s m args below meth c G cy dC dI F hr hlk as M post hS
  unfold SX3_fault at hS
  split at hS
  · rename_i t i0 j k
    obtain ⟨rfl, rfl, hM, hS⟩ := hS
    refine ⟨by simp only [lk, wd, rm1, rm2, pick, popn, catS, pushO, aLV, cond_true, cond_false, Bool.not_true, Bool.not_false, Bool.and_true, Bool.and_false, Bool.true_and, Bool.false_and, eq_self, true_and, and_true, Nat.reduceBEq, Nat.reduceAdd, reduceIte, Nat.reduceEqDiff]; decide, sBX3_fault_0 F hr hlk _ _ _ ?_⟩
    simp only [BX3_fault_0, i_push, i_iload, i_aload, i_II, i_if, i_getI, i_getR, i_putI, i_iast, i_call, i_iret, lk, wd, rm1, rm2, pick, popn, catS, pushO, aLV, cond_true, cond_false, Bool.not_true, Bool.not_false, Bool.and_true, Bool.and_false, Bool.true_and, Bool.false_and, eq_self, true_and, and_true, Nat.reduceBEq, Nat.reduceAdd, reduceIte, Nat.reduceEqDiff, SX3_in]
    try simp only [tCnt, aK, aN, aR, eq_self, true_and, and_true, Nat.reduceLeDiff, Nat.reduceEqDiff]
    (try simp only [b2i_0, Bool.not_eq_true, Bool.not_eq_false]); (try simp only [show sI M 8 0 0 0 = z0 M from rfl]); generalize hN : z0 M = N at hS hM ⊢
    (try simp only [nar0, nar1])
    have hQ : inR j 0 (N.1 8 0 11 - 1) = true → vp_in j 40 := mj_in hM.2.2.1
    (try simp only [b2i_0, Bool.not_eq_true, Bool.not_eq_false])
    (repeat' (first | with_reducible assumption | exact b2i_1 _ | exact hQ (by with_reducible assumption) | apply And.intro | intro _)) <;> (first | with_reducible assumption | decide | (simpa [m_fault, *] using hS) | (simp_all [m_fault]; done))
  · exact hS.elim
def SX3_telling : SP := fun as M post => match as with
  | [.inr (t, i0), .inl (.int p0), .inl (.int i)] => t = 8 ∧ i0 = 0 ∧ isPl p0 = true ∧ ¬ i < 0 ∧ cl i < 40 ∧ GR (M.2.2 13 0 (40 * cl p0 + cl i)) ∧ post (some (.inl (.long (mTel M (cl p0) (cl i))))) M
  | _ => False
abbrev rmX3_telling : Room := ({ frames := 0, cells := 0, slots := 0, locals := 0 } : Room)
def BX3_telling_0 (Qr : Option AV → MM → Prop) (lv : LV) (st : List AV) (M : MM) : Prop := (i_push (.inl (.int 40)) (i_iload 1 (i_II (fun a b => a * b) (i_iload 2 (i_II (fun a b => a + b) (i_istore 3 (i_aload 0 (i_getR 8 9 (fun _ => 0) (i_iload 1 (i_iald 0 (i_push (.inl (.int 5)) (i_cmp (fun a b => a = b) (i_aload 0 (i_getR 8 13 (fun _ => 0) (i_iload 3 (i_dald (i_d2f (i_push (.inl (.float 1090519040)) (i_fmul (i_F (fun a => .inl (.long (FP.f2l a))) (i_lret Qr))))))))) (i_aload 0 (i_getR 8 9 (fun _ => 0) (i_iload 1 (i_iald 0 (i_push (.inl (.int 6)) (i_cmp (fun a b => a = b) (i_aload 0 (i_getR 8 13 (fun _ => 0) (i_iload 3 (i_dald (i_push (.inl (.double 4620693217682128896)) (i_dmul (i_D (fun a => .inl (.long (FP.d2l a))) (i_lret Qr)))))))) (i_aload 0 (i_getR 8 12 (fun _ => 0) (i_iload 3 (i_lald (i_lret Qr))))))))))))))))))))))) lv st M
set_option maxRecDepth 100000 in
set_option maxHeartbeats 4000000 in
theorem sBX3_telling_0 {p : Program} {l : Launch} {e : Env} {s : State} {m : MethodId} {args : Array Value} {below : List Frame} {meth : Method} {c : Code} {G : Nat → Nat → Nat} {cy dC : Nat → ClassId} {dI : Nat → Nat → Nat} {Qr : Option AV → MM → Prop} (F : FX p m c cX3_telling 4 RX3 s args (AW G) G cy dC dI) (hr : meth.sig.returnType = (some .long)) (hlk : meth.locks = false) : SO p l e rmX3_telling s m args below meth c 0 0 (MQ below (QL G cy dC dI Qr) args s 0 0 (AW G)) 4 (AW G) G cy dC dI 0 (BX3_telling_0 Qr) := by
  exact (s_bipush F dX3_telling_0 (by decide) (s_iload_n F dX3_telling_2 rfl (s_imul F dX3_telling_3 (s_iload_n F dX3_telling_4 rfl (s_iadd F dX3_telling_5 (s_istore_n F dX3_telling_6 rfl (by decide) (s_aload_n F dX3_telling_7 rfl (s_getR F (ci := 3) (f := 1) dX3_telling_8 rfl in_X3 (by decide) q468 (fun _ _ _ _ => ⟨_, rfl, rfl⟩) (s_iload_n F dX3_telling_11 rfl (s_iald F dX3_telling_12 (s_iconst F dX3_telling_13 (by decide) (s_icmp_ne F dX3_telling_14 (by decide) (s_aload_n F dX3_telling_29 rfl (s_getR F (ci := 3) (f := 1) dX3_telling_30 rfl in_X3 (by decide) q468 (fun _ _ _ _ => ⟨_, rfl, rfl⟩) (s_iload_n F dX3_telling_33 rfl (s_iald F dX3_telling_34 (s_bipush F dX3_telling_35 (by decide) (s_icmp_ne F dX3_telling_37 (by decide) (s_aload_n F dX3_telling_54 rfl (s_getR F (ci := 3) (f := 4) dX3_telling_55 rfl in_X3 (by decide) q471 (fun _ _ _ _ => ⟨_, rfl, rfl⟩) (s_iload_n F dX3_telling_58 rfl (s_lald F dX3_telling_59 (s_lret F dX3_telling_60 hr hlk))))) (s_aload_n F dX3_telling_40 rfl (s_getR F (ci := 3) (f := 5) dX3_telling_41 rfl in_X3 (by decide) q472 (fun _ _ _ _ => ⟨_, rfl, rfl⟩) (s_iload_n F dX3_telling_44 rfl (s_dald F dX3_telling_45 (s_ldc2d F dX3_telling_46 q569 (s_dmul F dX3_telling_49 (s_d2l F dX3_telling_50 (s_goto F dX3_telling_51 (by decide) (s_lret F dX3_telling_60 hr hlk))))))))))))))) (s_aload_n F dX3_telling_17 rfl (s_getR F (ci := 3) (f := 5) dX3_telling_18 rfl in_X3 (by decide) q472 (fun _ _ _ _ => ⟨_, rfl, rfl⟩) (s_iload_n F dX3_telling_21 rfl (s_dald F dX3_telling_22 (s_d2f F dX3_telling_23 (s_ldcf F dX3_telling_24 q568 (s_fmul F dX3_telling_26 (s_f2l F dX3_telling_27 (s_lret F dX3_telling_28 hr hlk)))))))))))))))))))))
set_option maxRecDepth 100000 in
set_option maxHeartbeats 4000000 in
theorem ctX3_telling (l : Launch) : CL l yX3_telling (ws_ yX3_telling cX3_telling 4 (some .long)) rmX3_telling SX3_telling := by
  refine mk_CL (by decide) ?_
  intro p e s m args below meth c G cy dC dI F hr hlk as M post hS
  unfold SX3_telling at hS
  split at hS
  · rename_i t i0 p0 i
    obtain ⟨rfl, rfl, hp, h0, hi, hg, hS⟩ := hS
    refine ⟨by simp only [lk, wd, rm1, rm2, pick, popn, catS, pushO, aLV, cond_true, cond_false, Bool.not_true, Bool.not_false, Bool.and_true, Bool.and_false, Bool.true_and, Bool.false_and, eq_self, true_and, and_true, Nat.reduceBEq, Nat.reduceAdd, reduceIte, Nat.reduceEqDiff]; decide, sBX3_telling_0 F hr hlk _ _ _ ?_⟩
    simp only [BX3_telling_0, i_push, i_iload, i_aload, i_istore, i_II, i_D, i_F, i_d2f, i_fmul, i_dmul, i_cmp, i_getR, i_iald, i_lald, i_dald, i_lret, lk, wd, rm1, rm2, pick, popn, catS, pushO, aLV, cond_true, cond_false, Bool.not_true, Bool.not_false, Bool.and_true, Bool.and_false, Bool.true_and, Bool.false_and, eq_self, true_and, and_true, Nat.reduceBEq, Nat.reduceAdd, reduceIte, Nat.reduceEqDiff]
    try simp only [tCnt, aK, aN, aR, eq_self, true_and, and_true, Nat.reduceLeDiff, Nat.reduceEqDiff]
    have hi1 := (ix_v hp h0 hi).1
    have hv := (isPl_in hp).1
    simp only [show (40 * p0 + i).toNatClampNeg = 40 * cl p0 + cl i from (ix_v hp h0 hi).2]
    have hg1 := hg.1
    have hg2 := hg.2.1
    have hg4 := hg.2.2.2
    (try simp only [b2i_0, Bool.not_eq_true, Bool.not_eq_false])
    (repeat' (first | with_reducible assumption | exact b2i_1 _ | apply And.intro | intro _)) <;> (first | with_reducible assumption | decide | (simpa [mTel, *] using hS) | (simp_all [mTel]; done))
  · exact hS.elim
def SX3_wayTo : SP := fun as M post => match as with
  | [.inr (t, i0), .inl (.int p0), .inl (.int i)] => t = 8 ∧ i0 = 0 ∧ MOK M ∧ post (some (.inl (.int (m_wt M p0 i)))) M
  | _ => False
abbrev rmX3_wayTo : Room := ({ frames := 2, cells := 0, slots := 0, locals := 120 } : Room)
def BX3_wayTo_0 (Qr : Option AV → MM → Prop) (lv : LV) (st : List AV) (M : MM) : Prop := (i_iload 1 (i_call 1 SX3_isPlace (i_if (fun a => a = 0) (i_push (.inl (.int (-1))) (i_iret Qr)) (i_aload 0 (i_iload 1 (i_push (.inl (.int 1)) (i_callV 2 8 SX3_way (i_istore 3 (i_iload 3 (i_if (fun a => a = 0) (i_aload 0 (i_iload 1 (i_iload 2 (i_callV 2 8 SX3_has (i_if (fun a => a = 0) (i_push (.inl (.int (-12))) (i_iret Qr)) (i_aload 0 (i_getR 8 12 (fun _ => 0) (i_push (.inl (.int 40)) (i_iload 1 (i_II (fun a b => a * b) (i_iload 2 (i_II (fun a b => a + b) (i_lald (i_push (.inl (.long 0)) (i_lcmp (i_if (fun a => a < 0) (i_push (.inl (.int (-11))) (i_iret Qr)) (i_push (.inl (.int 0)) (i_iret Qr)))))))))))))))))) (i_iload 3 (i_iret Qr)))))))))))) lv st M
set_option maxRecDepth 100000 in
set_option maxHeartbeats 4000000 in
theorem sBX3_wayTo_0 {p : Program} {l : Launch} {e : Env} {s : State} {m : MethodId} {args : Array Value} {below : List Frame} {meth : Method} {c : Code} {G : Nat → Nat → Nat} {cy dC : Nat → ClassId} {dI : Nat → Nat → Nat} {Qr : Option AV → MM → Prop} (F : FX p m c cX3_wayTo 4 RX3 s args (AW G) G cy dC dI) (hr : meth.sig.returnType = (some .int)) (hlk : meth.locks = false) : SO p l e rmX3_wayTo s m args below meth c 0 0 (MQ below (QI G cy dC dI Qr) args s 0 0 (AW G)) 4 (AW G) G cy dC dI 0 (BX3_wayTo_0 Qr) := by
  exact (s_iload_n F dX3_wayTo_0 rfl (s_callSi F dX3_wayTo_1 (ctX3_isPlace l) (lw_S q529 q530 q4 q531) ⟨rfl, rfl⟩ (by decide +kernel) (by decide) ⟨Nat.zero_le _, Nat.zero_le _⟩ (s_if_ne F dX3_wayTo_4 (by decide) (s_aload_n F dX3_wayTo_9 rfl (s_iload_n F dX3_wayTo_10 rfl (s_iconst F dX3_wayTo_11 (by decide) (s_callVi F dX3_wayTo_12 (ctX3_way l) (lw_V q560 q562 qs12 q4 q563) ⟨rfl, rfl⟩ (by decide +kernel) (by decide) ⟨Nat.zero_le _, Nat.zero_le _⟩ (ci := 3) rfl (fun _ _ _ _ => ⟨_, rfl⟩) (s_istore_n F dX3_wayTo_15 rfl (by decide) (s_iload_n F dX3_wayTo_16 rfl (s_if_eq F dX3_wayTo_17 (by decide) (s_aload_n F dX3_wayTo_22 rfl (s_iload_n F dX3_wayTo_23 rfl (s_iload_n F dX3_wayTo_24 rfl (s_callVi F dX3_wayTo_25 (ctX3_has l) (lw_V q564 q566 qs13 q4 q567) ⟨rfl, rfl⟩ (by decide +kernel) (by decide) ⟨Nat.zero_le _, Nat.zero_le _⟩ (ci := 3) rfl (fun _ _ _ _ => ⟨_, rfl⟩) (s_if_ne F dX3_wayTo_28 (by decide) (s_aload_n F dX3_wayTo_36 rfl (s_getR F (ci := 3) (f := 4) dX3_wayTo_37 rfl in_X3 (by decide) q471 (fun _ _ _ _ => ⟨_, rfl, rfl⟩) (s_bipush F dX3_wayTo_40 (by decide) (s_iload_n F dX3_wayTo_42 rfl (s_imul F dX3_wayTo_43 (s_iload_n F dX3_wayTo_44 rfl (s_iadd F dX3_wayTo_45 (s_lald F dX3_wayTo_46 (s_lconst F dX3_wayTo_47 (by decide) (s_lcmp F dX3_wayTo_48 (s_if_ge F dX3_wayTo_49 (by decide) (s_iconst F dX3_wayTo_57 (by decide) (s_iret F dX3_wayTo_58 hr hlk)) (s_bipush F dX3_wayTo_52 (by decide) (s_goto F dX3_wayTo_54 (by decide) (s_iret F dX3_wayTo_58 hr hlk)))))))))))))) (s_bipush F dX3_wayTo_31 (by decide) (s_goto F dX3_wayTo_33 (by decide) (s_iret F dX3_wayTo_58 hr hlk)))))))) (s_iload_n F dX3_wayTo_20 rfl (s_iret F dX3_wayTo_21 hr hlk))))))))) (s_iconst F dX3_wayTo_7 (by decide) (s_iret F dX3_wayTo_8 hr hlk)))))
set_option maxRecDepth 100000 in
set_option maxHeartbeats 4000000 in
theorem ctX3_wayTo (l : Launch) : CI l yX3_wayTo (ws_ yX3_wayTo cX3_wayTo 4 (some .int)) rmX3_wayTo SX3_wayTo := by
  refine mk_CI (by decide) ?_
  intro p e s m args below meth c G cy dC dI F hr hlk as M post hS
  unfold SX3_wayTo at hS
  split at hS
  · rename_i t i0 p0 i
    obtain ⟨rfl, rfl, hM, hS⟩ := hS
    refine ⟨by simp only [lk, wd, rm1, rm2, pick, popn, catS, pushO, aLV, cond_true, cond_false, Bool.not_true, Bool.not_false, Bool.and_true, Bool.and_false, Bool.true_and, Bool.false_and, eq_self, true_and, and_true, Nat.reduceBEq, Nat.reduceAdd, reduceIte, Nat.reduceEqDiff]; decide, sBX3_wayTo_0 F hr hlk _ _ _ ?_⟩
    simp only [BX3_wayTo_0, i_push, i_iload, i_aload, i_istore, i_II, i_lcmp, i_if, i_getR, i_lald, i_call, i_callV, i_iret, lk, wd, rm1, rm2, pick, popn, catS, pushO, aLV, cond_true, cond_false, Bool.not_true, Bool.not_false, Bool.and_true, Bool.and_false, Bool.true_and, Bool.false_and, eq_self, true_and, and_true, Nat.reduceBEq, Nat.reduceAdd, reduceIte, Nat.reduceEqDiff, SX3_has, SX3_isPlace, SX3_way]
    try simp only [tCnt, aK, aN, aR, eq_self, true_and, and_true, Nat.reduceLeDiff, Nat.reduceEqDiff]
    have hH : isPl p0 = true → mHas M (cl p0) i = true → ¬ i < 0 ∧ cl i < mcnt M (cl p0) ∧ cl i < 40 := fun h1 h2 => mHas_in hM (isPl_in h1).2 h2
    have hI : isPl p0 = true → mHas M (cl p0) i = true → vp_in (40 * p0 + i) 960 := fun h1 h2 => (ix_v h1 (hH h1 h2).1 (hH h1 h2).2.2).1
    have hE : isPl p0 = true → mHas M (cl p0) i = true → (40 * p0 + i).toNatClampNeg = 40 * cl p0 + cl i := fun h1 h2 => (ix_v h1 (hH h1 h2).1 (hH h1 h2).2.2).2
    (try simp only [b2i_0, Bool.not_eq_true, Bool.not_eq_false])
    by_cases hpl : isPl p0 = true
    · by_cases hha : mHas M (cl p0) i = true
      · simp only [hE hpl hha]
        have hi1 := hI hpl hha
        have hv := (isPl_in hpl).1
        (try simp only [b2i_0, Bool.not_eq_true, Bool.not_eq_false])
        (repeat' (first | with_reducible assumption | exact b2i_1 _ | apply And.intro | intro _)) <;> (first | with_reducible assumption | decide | (simpa [m_wt, *] using hS) | (simp_all [m_wt]; done))
      · have hv := (isPl_in hpl).1
        (try simp only [b2i_0, Bool.not_eq_true, Bool.not_eq_false])
        (repeat' (first | with_reducible assumption | exact b2i_1 _ | apply And.intro | intro _)) <;> (first | with_reducible assumption | decide | (simpa [m_wt, *] using hS) | (simp_all [m_wt]; done))
    · (try simp only [b2i_0, Bool.not_eq_true, Bool.not_eq_false])
      (repeat' (first | with_reducible assumption | exact b2i_1 _ | apply And.intro | intro _)) <;> (first | with_reducible assumption | decide | (simpa [m_wt, *] using hS) | (simp_all [m_wt]; done))
  · exact hS.elim
def SX3_put : SP := fun as M post => match as with
  | [.inr (t, i0), .inl (.int p0), .inl (.int i), .inl (.long v)] => t = 8 ∧ i0 = 0 ∧ MOK (z0 M) ∧ post (some (.inl (.int (m_put (z0 M) p0 i v).1))) (m_put (z0 M) p0 i v).2
  | _ => False
abbrev rmX3_put : Room := ({ frames := 2, cells := 0, slots := 0, locals := 120 } : Room)
def BX3_put_36 (Qr : Option AV → MM → Prop) (lv : LV) (st : List AV) (M : MM) : Prop := (i_iload 5 (i_if (fun a => a = 0) (i_push (.inl (.int (-12))) (i_iret Qr)) (i_iload 5 (i_iret Qr)))) lv st M
set_option maxRecDepth 100000 in
set_option maxHeartbeats 4000000 in
theorem sBX3_put_36 {p : Program} {l : Launch} {e : Env} {s : State} {m : MethodId} {args : Array Value} {below : List Frame} {meth : Method} {c : Code} {G : Nat → Nat → Nat} {cy dC : Nat → ClassId} {dI : Nat → Nat → Nat} {Qr : Option AV → MM → Prop} (F : FX p m c cX3_put 7 RX3 s args (AW G) G cy dC dI) (hr : meth.sig.returnType = (some .int)) (hlk : meth.locks = false) : SO p l e rmX3_put s m args below meth c 0 0 (MQ below (QI G cy dC dI Qr) args s 0 0 (AW G)) 7 (AW G) G cy dC dI 36 (BX3_put_36 Qr) := by
  exact (s_iload F dX3_put_36 (s_if_eq F dX3_put_38 (by decide) (s_bipush F dX3_put_46 (by decide) (s_iret F dX3_put_48 hr hlk)) (s_iload F dX3_put_41 (s_goto F dX3_put_43 (by decide) (s_iret F dX3_put_48 hr hlk)))))
def BX3_put_0 (Qr : Option AV → MM → Prop) (lv : LV) (st : List AV) (M : MM) : Prop := (i_aload 0 (i_push (.inl (.int 0)) (i_putI 8 0 (i_iload 1 (i_call 1 SX3_isPlace (i_if (fun a => a = 0) (i_push (.inl (.int (-1))) (i_iret Qr)) (i_aload 0 (i_iload 1 (i_push (.inl (.int 0)) (i_callV 2 8 SX3_way (i_istore 5 (i_iload 5 (i_if (fun a => a = 0) (i_aload 0 (i_iload 1 (i_iload 2 (i_callV 2 8 SX3_has (i_if (fun a => a = 0) (i_cut [5] (BX3_put_36 Qr)) (i_push (.inl (.int 40)) (i_iload 1 (i_II (fun a b => a * b) (i_iload 2 (i_II (fun a b => a + b) (i_istore 6 (i_aload 0 (i_getR 8 9 (fun _ => 0) (i_iload 1 (i_iald 0 (i_push (.inl (.int 5)) (i_cmp (fun a b => a = b) (i_aload 0 (i_getR 8 13 (fun _ => 0) (i_iload 6 (i_lload 3 (i_L (fun a => .inl (.float (FP.l2f a))) (i_push (.inl (.float 1090519040)) (i_fdiv (i_f2d (i_dast (i_push (.inl (.int 1)) (i_iret Qr))))))))))) (i_aload 0 (i_getR 8 9 (fun _ => 0) (i_iload 1 (i_iald 0 (i_push (.inl (.int 6)) (i_cmp (fun a b => a = b) (i_aload 0 (i_getR 8 13 (fun _ => 0) (i_iload 6 (i_lload 3 (i_L (fun a => .inl (.double (FP.l2d a))) (i_push (.inl (.double 4620693217682128896)) (i_ddiv (i_dast (i_push (.inl (.int 1)) (i_iret Qr)))))))))) (i_aload 0 (i_getR 8 12 (fun _ => 0) (i_iload 6 (i_aload 0 (i_getR 8 9 (fun _ => 0) (i_iload 1 (i_iald 0 (i_lload 3 (i_call 2 SX3_low (i_last (i_push (.inl (.int 1)) (i_iret Qr))))))))))))))))))))))))))))))))))) (i_cut [5] (BX3_put_36 Qr))))))))))))))) lv st M
set_option maxRecDepth 100000 in
set_option maxHeartbeats 4000000 in
theorem sBX3_put_0 {p : Program} {l : Launch} {e : Env} {s : State} {m : MethodId} {args : Array Value} {below : List Frame} {meth : Method} {c : Code} {G : Nat → Nat → Nat} {cy dC : Nat → ClassId} {dI : Nat → Nat → Nat} {Qr : Option AV → MM → Prop} (F : FX p m c cX3_put 7 RX3 s args (AW G) G cy dC dI) (hr : meth.sig.returnType = (some .int)) (hlk : meth.locks = false) : SO p l e rmX3_put s m args below meth c 0 0 (MQ below (QI G cy dC dI Qr) args s 0 0 (AW G)) 7 (AW G) G cy dC dI 0 (BX3_put_0 Qr) := by
  exact (s_aload_n F dX3_put_0 rfl (s_iconst F dX3_put_1 (by decide) (s_putI F (ci := 3) dX3_put_2 rfl in_X3 tyX3 tyX3_ok nmX3 (by decide) q467 rfl (by decide +kernel) (fun _ _ _ _ _ => ⟨_, rfl, Nat.le_of_ble_eq_true rfl, rfl⟩) (s_iload_n F dX3_put_5 rfl (s_callSi F dX3_put_6 (ctX3_isPlace l) (lw_S q529 q530 q4 q531) ⟨rfl, rfl⟩ (by decide +kernel) (by decide) ⟨Nat.zero_le _, Nat.zero_le _⟩ (s_if_ne F dX3_put_9 (by decide) (s_aload_n F dX3_put_14 rfl (s_iload_n F dX3_put_15 rfl (s_iconst F dX3_put_16 (by decide) (s_callVi F dX3_put_17 (ctX3_way l) (lw_V q560 q562 qs12 q4 q563) ⟨rfl, rfl⟩ (by decide +kernel) (by decide) ⟨Nat.zero_le _, Nat.zero_le _⟩ (ci := 3) rfl (fun _ _ _ _ => ⟨_, rfl⟩) (s_istore F dX3_put_20 (by decide) (s_iload F dX3_put_22 (s_if_ne F dX3_put_24 (by decide) (s_cut [5] (sBX3_put_36 F hr hlk)) (s_aload_n F dX3_put_27 rfl (s_iload_n F dX3_put_28 rfl (s_iload_n F dX3_put_29 rfl (s_callVi F dX3_put_30 (ctX3_has l) (lw_V q564 q566 qs13 q4 q567) ⟨rfl, rfl⟩ (by decide +kernel) (by decide) ⟨Nat.zero_le _, Nat.zero_le _⟩ (ci := 3) rfl (fun _ _ _ _ => ⟨_, rfl⟩) (s_if_ne F dX3_put_33 (by decide) (s_bipush F dX3_put_49 (by decide) (s_iload_n F dX3_put_51 rfl (s_imul F dX3_put_52 (s_iload_n F dX3_put_53 rfl (s_iadd F dX3_put_54 (s_istore F dX3_put_55 (by decide) (s_aload_n F dX3_put_57 rfl (s_getR F (ci := 3) (f := 1) dX3_put_58 rfl in_X3 (by decide) q468 (fun _ _ _ _ => ⟨_, rfl, rfl⟩) (s_iload_n F dX3_put_61 rfl (s_iald F dX3_put_62 (s_iconst F dX3_put_63 (by decide) (s_icmp_ne F dX3_put_64 (by decide) (s_aload_n F dX3_put_83 rfl (s_getR F (ci := 3) (f := 1) dX3_put_84 rfl in_X3 (by decide) q468 (fun _ _ _ _ => ⟨_, rfl, rfl⟩) (s_iload_n F dX3_put_87 rfl (s_iald F dX3_put_88 (s_bipush F dX3_put_89 (by decide) (s_icmp_ne F dX3_put_91 (by decide) (s_aload_n F dX3_put_110 rfl (s_getR F (ci := 3) (f := 4) dX3_put_111 rfl in_X3 (by decide) q471 (fun _ _ _ _ => ⟨_, rfl, rfl⟩) (s_iload F dX3_put_114 (s_aload_n F dX3_put_116 rfl (s_getR F (ci := 3) (f := 1) dX3_put_117 rfl in_X3 (by decide) q468 (fun _ _ _ _ => ⟨_, rfl, rfl⟩) (s_iload_n F dX3_put_120 rfl (s_iald F dX3_put_121 (s_lload_n F dX3_put_122 rfl (s_callSl F dX3_put_123 (ctX3_low l) (lw_S q570 q571 q4 q572) ⟨rfl, rfl⟩ (by decide +kernel) (by decide) ⟨Nat.zero_le _, Nat.zero_le _⟩ (s_last F dX3_put_126 (s_iconst F dX3_put_127 (by decide) (s_iret F dX3_put_128 hr hlk)))))))))))) (s_aload_n F dX3_put_94 rfl (s_getR F (ci := 3) (f := 5) dX3_put_95 rfl in_X3 (by decide) q472 (fun _ _ _ _ => ⟨_, rfl, rfl⟩) (s_iload F dX3_put_98 (s_lload_n F dX3_put_100 rfl (s_l2d F dX3_put_101 (s_ldc2d F dX3_put_102 q569 (s_ddiv F dX3_put_105 (s_dast F dX3_put_106 (s_goto F dX3_put_107 (by decide) (s_iconst F dX3_put_127 (by decide) (s_iret F dX3_put_128 hr hlk))))))))))))))))) (s_aload_n F dX3_put_67 rfl (s_getR F (ci := 3) (f := 5) dX3_put_68 rfl in_X3 (by decide) q472 (fun _ _ _ _ => ⟨_, rfl, rfl⟩) (s_iload F dX3_put_71 (s_lload_n F dX3_put_73 rfl (s_l2f F dX3_put_74 (s_ldcf F dX3_put_75 q568 (s_fdiv F dX3_put_77 (s_f2d F dX3_put_78 (s_dast F dX3_put_79 (s_goto F dX3_put_80 (by decide) (s_iconst F dX3_put_127 (by decide) (s_iret F dX3_put_128 hr hlk)))))))))))))))))))))))) (s_cut [5] (sBX3_put_36 F hr hlk)))))))))))))) (s_iconst F dX3_put_12 (by decide) (s_iret F dX3_put_13 hr hlk))))))))
set_option maxRecDepth 100000 in
set_option maxHeartbeats 4000000 in
theorem ctX3_put (l : Launch) : CI l yX3_put (ws_ yX3_put cX3_put 7 (some .int)) rmX3_put SX3_put := by
  refine mk_CI (by decide) ?_
  intro p e s m args below meth c G cy dC dI F hr hlk as M post hS
  unfold SX3_put at hS
  split at hS
  · rename_i t i0 p0 i v
    obtain ⟨rfl, rfl, hM, hS⟩ := hS
    refine ⟨by simp only [lk, wd, rm1, rm2, pick, popn, catS, pushO, aLV, cond_true, cond_false, Bool.not_true, Bool.not_false, Bool.and_true, Bool.and_false, Bool.true_and, Bool.false_and, eq_self, true_and, and_true, Nat.reduceBEq, Nat.reduceAdd, reduceIte, Nat.reduceEqDiff]; decide, sBX3_put_0 F hr hlk _ _ _ ?_⟩
    simp only [BX3_put_0, BX3_put_36, i_push, i_iload, i_lload, i_aload, i_istore, i_II, i_L, i_f2d, i_fdiv, i_ddiv, i_if, i_cmp, i_getR, i_putI, i_iald, i_last, i_dast, i_call, i_callV, i_iret, i_cut, lk, wd, rm1, rm2, pick, popn, catS, pushO, aLV, cond_true, cond_false, Bool.not_true, Bool.not_false, Bool.and_true, Bool.and_false, Bool.true_and, Bool.false_and, eq_self, true_and, and_true, Nat.reduceBEq, Nat.reduceAdd, reduceIte, Nat.reduceEqDiff, SX3_has, SX3_isPlace, SX3_low, SX3_way]
    try simp only [tCnt, aK, aN, aR, eq_self, true_and, and_true, Nat.reduceLeDiff, Nat.reduceEqDiff]
    (try simp only [b2i_0, Bool.not_eq_true, Bool.not_eq_false]); (try simp only [show sI M 8 0 0 0 = z0 M from rfl]); generalize hN : z0 M = N at hS hM ⊢
    (try simp only [nar0, nar1])
    have hH : isPl p0 = true → mHas N (cl p0) i = true → ¬ i < 0 ∧ cl i < mcnt N (cl p0) ∧ cl i < 40 := fun h1 h2 => mHas_in hM (isPl_in h1).2 h2
    have hI : isPl p0 = true → mHas N (cl p0) i = true → vp_in (40 * p0 + i) 960 := fun h1 h2 => (ix_v h1 (hH h1 h2).1 (hH h1 h2).2.2).1
    have hE : isPl p0 = true → mHas N (cl p0) i = true → (40 * p0 + i).toNatClampNeg = 40 * cl p0 + cl i := fun h1 h2 => (ix_v h1 (hH h1 h2).1 (hH h1 h2).2.2).2
    (try simp only [b2i_0, Bool.not_eq_true, Bool.not_eq_false])
    by_cases hpl : isPl p0 = true
    · have hv := (isPl_in hpl).1
      by_cases hha : mHas N (cl p0) i = true
      · (try simp only [hE hpl hha])
        have hi1 := hI hpl hha
        obtain ⟨hi0, hic, hi40⟩ := hH hpl hha
        have f5 := fp_put5 v; have f5a := f5.1; have f5b := f5.2; have f6 := fp_put6 v
        (try simp only [b2i_0, Bool.not_eq_true, Bool.not_eq_false])
        (repeat' (first | with_reducible assumption | exact b2i_1 _ | apply And.intro | intro _)) <;> (first | with_reducible assumption | decide | (simpa [m_put, *] using hS) | (simp_all [m_put]; done))
      · have f5 := fp_put5 v; have f5a := f5.1; have f5b := f5.2; have f6 := fp_put6 v
        (try simp only [b2i_0, Bool.not_eq_true, Bool.not_eq_false])
        (repeat' (first | with_reducible assumption | exact b2i_1 _ | apply And.intro | intro _)) <;> (first | with_reducible assumption | decide | (simpa [m_put, *] using hS) | (simp_all [m_put]; done))
    · have f5 := fp_put5 v; have f5a := f5.1; have f5b := f5.2; have f6 := fp_put6 v
      (try simp only [b2i_0, Bool.not_eq_true, Bool.not_eq_false])
      (repeat' (first | with_reducible assumption | exact b2i_1 _ | apply And.intro | intro _)) <;> (first | with_reducible assumption | decide | (simpa [m_put, *] using hS) | (simp_all [m_put]; done))
  · exact hS.elim
def SX3_lay : SP := fun as M post => match as with
  | [.inr (t, i0), .inl (.int p0), .inl (.int i), .inl (.int j)] => t = 8 ∧ i0 = 0 ∧ MOK (z0 M) ∧ post (some (.inl (.int (m_lay (z0 M) p0 i j).1))) (m_lay (z0 M) p0 i j).2
  | _ => False
abbrev rmX3_lay : Room := ({ frames := 2, cells := 0, slots := 0, locals := 120 } : Room)
def BX3_lay_0 (Qr : Option AV → MM → Prop) (lv : LV) (st : List AV) (M : MM) : Prop := (i_aload 0 (i_push (.inl (.int 0)) (i_putI 8 0 (i_iload 1 (i_call 1 SX3_isPlace (i_if (fun a => a = 0) (i_push (.inl (.int (-1))) (i_iret Qr)) (i_iload 3 (i_push (.inl (.int (-1))) (i_aload 0 (i_getI 8 11 (i_push (.inl (.int 1)) (i_II (fun a b => a - b) (i_call 3 SX3_in (i_if (fun a => a = 0) (i_push (.inl (.int (-1))) (i_iret Qr)) (i_aload 0 (i_iload 1 (i_push (.inl (.int 1)) (i_callV 2 8 SX3_way (i_istore 4 (i_iload 4 (i_if (fun a => a = 0) (i_aload 0 (i_iload 1 (i_iload 2 (i_callV 2 8 SX3_has (i_if (fun a => a = 0) (i_push (.inl (.int (-12))) (i_iret Qr)) (i_aload 0 (i_aload 0 (i_getR 8 9 (fun _ => 0) (i_iload 1 (i_iald 0 (i_iload 3 (i_I (fun a => .inl (.long a.toInt64)) (i_callV 2 8 SX3_takes (i_if (fun a => a = 0) (i_push (.inl (.int (-14))) (i_iret Qr)) (i_aload 0 (i_getR 8 12 (fun _ => 0) (i_push (.inl (.int 40)) (i_iload 1 (i_II (fun a b => a * b) (i_iload 2 (i_II (fun a b => a + b) (i_iload 3 (i_I (fun a => .inl (.long a.toInt64)) (i_last (i_iload 3 (i_if (fun a => a < 0) (i_push (.inl (.int 1)) (i_iret Qr)) (i_aload 0 (i_getR 8 21 (fun _ => 0) (i_iload 3 (i_dup2 (i_iald 0 (i_push (.inl (.int 1)) (i_II (fun a b => a + b) (i_iast (i_push (.inl (.int 1)) (i_iret Qr)))))))))))))))))))))))))))))))))))) (i_iload 4 (i_iret Qr))))))))))))))))))))))) lv st M
set_option maxRecDepth 100000 in
set_option maxHeartbeats 4000000 in
theorem sBX3_lay_0 {p : Program} {l : Launch} {e : Env} {s : State} {m : MethodId} {args : Array Value} {below : List Frame} {meth : Method} {c : Code} {G : Nat → Nat → Nat} {cy dC : Nat → ClassId} {dI : Nat → Nat → Nat} {Qr : Option AV → MM → Prop} (F : FX p m c cX3_lay 5 RX3 s args (AW G) G cy dC dI) (hr : meth.sig.returnType = (some .int)) (hlk : meth.locks = false) : SO p l e rmX3_lay s m args below meth c 0 0 (MQ below (QI G cy dC dI Qr) args s 0 0 (AW G)) 5 (AW G) G cy dC dI 0 (BX3_lay_0 Qr) := by
  exact (s_aload_n F dX3_lay_0 rfl (s_iconst F dX3_lay_1 (by decide) (s_putI F (ci := 3) dX3_lay_2 rfl in_X3 tyX3 tyX3_ok nmX3 (by decide) q467 rfl (by decide +kernel) (fun _ _ _ _ _ => ⟨_, rfl, Nat.le_of_ble_eq_true rfl, rfl⟩) (s_iload_n F dX3_lay_5 rfl (s_callSi F dX3_lay_6 (ctX3_isPlace l) (lw_S q529 q530 q4 q531) ⟨rfl, rfl⟩ (by decide +kernel) (by decide) ⟨Nat.zero_le _, Nat.zero_le _⟩ (s_if_eq F dX3_lay_9 (by decide) (s_iconst F dX3_lay_26 (by decide) (s_iret F dX3_lay_27 hr hlk)) (s_iload_n F dX3_lay_12 rfl (s_iconst F dX3_lay_13 (by decide) (s_aload_n F dX3_lay_14 rfl (s_getI F (ci := 3) dX3_lay_15 rfl in_X3 (by decide) q478 (fun _ _ _ _ => ⟨_, rfl, rfl⟩) (s_iconst F dX3_lay_18 (by decide) (s_isub F dX3_lay_19 (s_callSi F dX3_lay_20 (ctX3_in l) (lw_S q532 q533 q4 q534) ⟨rfl, rfl⟩ (by decide +kernel) (by decide) ⟨Nat.zero_le _, Nat.zero_le _⟩ (s_if_ne F dX3_lay_23 (by decide) (s_aload_n F dX3_lay_28 rfl (s_iload_n F dX3_lay_29 rfl (s_iconst F dX3_lay_30 (by decide) (s_callVi F dX3_lay_31 (ctX3_way l) (lw_V q560 q562 qs12 q4 q563) ⟨rfl, rfl⟩ (by decide +kernel) (by decide) ⟨Nat.zero_le _, Nat.zero_le _⟩ (ci := 3) rfl (fun _ _ _ _ => ⟨_, rfl⟩) (s_istore F dX3_lay_34 (by decide) (s_iload F dX3_lay_36 (s_if_eq F dX3_lay_38 (by decide) (s_aload_n F dX3_lay_44 rfl (s_iload_n F dX3_lay_45 rfl (s_iload_n F dX3_lay_46 rfl (s_callVi F dX3_lay_47 (ctX3_has l) (lw_V q564 q566 qs13 q4 q567) ⟨rfl, rfl⟩ (by decide +kernel) (by decide) ⟨Nat.zero_le _, Nat.zero_le _⟩ (ci := 3) rfl (fun _ _ _ _ => ⟨_, rfl⟩) (s_if_ne F dX3_lay_50 (by decide) (s_aload_n F dX3_lay_56 rfl (s_aload_n F dX3_lay_57 rfl (s_getR F (ci := 3) (f := 1) dX3_lay_58 rfl in_X3 (by decide) q468 (fun _ _ _ _ => ⟨_, rfl, rfl⟩) (s_iload_n F dX3_lay_61 rfl (s_iald F dX3_lay_62 (s_iload_n F dX3_lay_63 rfl (s_i2l F dX3_lay_64 (s_callVi F dX3_lay_65 (ctX3_takes l) (lw_V q613 q615 qs16 q4 q616) ⟨rfl, rfl⟩ (by decide +kernel) (by decide) ⟨Nat.zero_le _, Nat.zero_le _⟩ (ci := 3) rfl (fun _ _ _ _ => ⟨_, rfl⟩) (s_if_ne F dX3_lay_68 (by decide) (s_aload_n F dX3_lay_74 rfl (s_getR F (ci := 3) (f := 4) dX3_lay_75 rfl in_X3 (by decide) q471 (fun _ _ _ _ => ⟨_, rfl, rfl⟩) (s_bipush F dX3_lay_78 (by decide) (s_iload_n F dX3_lay_80 rfl (s_imul F dX3_lay_81 (s_iload_n F dX3_lay_82 rfl (s_iadd F dX3_lay_83 (s_iload_n F dX3_lay_84 rfl (s_i2l F dX3_lay_85 (s_last F dX3_lay_86 (s_iload_n F dX3_lay_87 rfl (s_if_lt F dX3_lay_88 (by decide) (s_iconst F dX3_lay_101 (by decide) (s_iret F dX3_lay_102 hr hlk)) (s_aload_n F dX3_lay_91 rfl (s_getR F (ci := 3) (f := 14) dX3_lay_92 rfl in_X3 (by decide) q481 (fun _ _ _ _ => ⟨_, rfl, rfl⟩) (s_iload_n F dX3_lay_95 rfl (s_dup2 F dX3_lay_96 (s_iald F dX3_lay_97 (s_iconst F dX3_lay_98 (by decide) (s_iadd F dX3_lay_99 (s_iast F dX3_lay_100 (s_iconst F dX3_lay_101 (by decide) (s_iret F dX3_lay_102 hr hlk)))))))))))))))))))))) (s_bipush F dX3_lay_71 (by decide) (s_iret F dX3_lay_73 hr hlk))))))))))) (s_bipush F dX3_lay_53 (by decide) (s_iret F dX3_lay_55 hr hlk))))))) (s_iload F dX3_lay_41 (s_iret F dX3_lay_43 hr hlk))))))))) (s_iconst F dX3_lay_26 (by decide) (s_iret F dX3_lay_27 hr hlk))))))))))))))))
set_option maxRecDepth 100000 in
set_option maxHeartbeats 4000000 in
theorem ctX3_lay (l : Launch) : CI l yX3_lay (ws_ yX3_lay cX3_lay 5 (some .int)) rmX3_lay SX3_lay := by
  refine mk_CI (by decide) ?_
  intro p e s m args below meth c G cy dC dI F hr hlk as M post hS
  unfold SX3_lay at hS
  split at hS
  · rename_i t i0 p0 i j
    obtain ⟨rfl, rfl, hM, hS⟩ := hS
    refine ⟨by simp only [lk, wd, rm1, rm2, pick, popn, catS, pushO, aLV, cond_true, cond_false, Bool.not_true, Bool.not_false, Bool.and_true, Bool.and_false, Bool.true_and, Bool.false_and, eq_self, true_and, and_true, Nat.reduceBEq, Nat.reduceAdd, reduceIte, Nat.reduceEqDiff]; decide, sBX3_lay_0 F hr hlk _ _ _ ?_⟩
    simp only [BX3_lay_0, i_push, i_iload, i_aload, i_istore, i_II, i_I, i_dup2, i_if, i_getI, i_getR, i_putI, i_iald, i_iast, i_last, i_call, i_callV, i_iret, lk, wd, rm1, rm2, pick, popn, catS, pushO, aLV, cond_true, cond_false, Bool.not_true, Bool.not_false, Bool.and_true, Bool.and_false, Bool.true_and, Bool.false_and, eq_self, true_and, and_true, Nat.reduceBEq, Nat.reduceAdd, reduceIte, Nat.reduceEqDiff, SX3_has, SX3_in, SX3_isPlace, SX3_takes, SX3_way]
    try simp only [tCnt, aK, aN, aR, eq_self, true_and, and_true, Nat.reduceLeDiff, Nat.reduceEqDiff]
    (try simp only [b2i_0, Bool.not_eq_true, Bool.not_eq_false]); (try simp only [show sI M 8 0 0 0 = z0 M from rfl]); generalize hN : z0 M = N at hS hM ⊢
    (try simp only [nar0, nar1])
    have hH : isPl p0 = true → mHas N (cl p0) i = true → ¬ i < 0 ∧ cl i < mcnt N (cl p0) ∧ cl i < 40 := fun h1 h2 => mHas_in hM (isPl_in h1).2 h2
    have hI : isPl p0 = true → mHas N (cl p0) i = true → vp_in (40 * p0 + i) 960 := fun h1 h2 => (ix_v h1 (hH h1 h2).1 (hH h1 h2).2.2).1
    have hE : isPl p0 = true → mHas N (cl p0) i = true → (40 * p0 + i).toNatClampNeg = 40 * cl p0 + cl i := fun h1 h2 => (ix_v h1 (hH h1 h2).1 (hH h1 h2).2.2).2
    (try simp only [b2i_0, Bool.not_eq_true, Bool.not_eq_false])
    by_cases hpl : isPl p0 = true
    · have hv := (isPl_in hpl).1
      by_cases hha : mHas N (cl p0) i = true
      · (try simp only [hE hpl hha])
        have hi1 := hI hpl hha
        obtain ⟨hi0, hic, hi40⟩ := hH hpl hha
        have hQ : inR j (-1) (N.1 8 0 11 - 1) = true → ¬ j < 0 → vp_in j 40 := mj_in2 hM.2.2.1
        have hQ2 : inR j (-1) (N.1 8 0 11 - 1) = true → ¬ lg_cmp j.toInt64 0 < 0 → vp_in j.toInt64.toInt32 40 := fun h1 h2 => by rw [back32]; exact hQ h1 (by rw [← long_lt0]; exact h2)
        (try simp only [b2i_0, Bool.not_eq_true, Bool.not_eq_false])
        (repeat' (first | with_reducible assumption | exact b2i_1 _ | exact hQ (by with_reducible assumption) (by with_reducible assumption) | exact hQ2 (by with_reducible assumption) | apply And.intro | intro _)) <;> (first | with_reducible assumption | decide | (simpa [m_lay, long_lt0, sL_1, *] using hS) | (simp_all [m_lay, long_lt0, sL_1]; done))
      · have hQ : inR j (-1) (N.1 8 0 11 - 1) = true → ¬ j < 0 → vp_in j 40 := mj_in2 hM.2.2.1
        have hQ2 : inR j (-1) (N.1 8 0 11 - 1) = true → ¬ lg_cmp j.toInt64 0 < 0 → vp_in j.toInt64.toInt32 40 := fun h1 h2 => by rw [back32]; exact hQ h1 (by rw [← long_lt0]; exact h2)
        (try simp only [b2i_0, Bool.not_eq_true, Bool.not_eq_false])
        (repeat' (first | with_reducible assumption | exact b2i_1 _ | exact hQ (by with_reducible assumption) (by with_reducible assumption) | exact hQ2 (by with_reducible assumption) | apply And.intro | intro _)) <;> (first | with_reducible assumption | decide | (simpa [m_lay, long_lt0, sL_1, *] using hS) | (simp_all [m_lay, long_lt0, sL_1]; done))
    · have hQ : inR j (-1) (N.1 8 0 11 - 1) = true → ¬ j < 0 → vp_in j 40 := mj_in2 hM.2.2.1
      have hQ2 : inR j (-1) (N.1 8 0 11 - 1) = true → ¬ lg_cmp j.toInt64 0 < 0 → vp_in j.toInt64.toInt32 40 := fun h1 h2 => by rw [back32]; exact hQ h1 (by rw [← long_lt0]; exact h2)
      (try simp only [b2i_0, Bool.not_eq_true, Bool.not_eq_false])
      (repeat' (first | with_reducible assumption | exact b2i_1 _ | exact hQ (by with_reducible assumption) (by with_reducible assumption) | exact hQ2 (by with_reducible assumption) | apply And.intro | intro _)) <;> (first | with_reducible assumption | decide | (simpa [m_lay, long_lt0, sL_1, *] using hS) | (simp_all [m_lay, long_lt0, sL_1]; done))
  · exact hS.elim
