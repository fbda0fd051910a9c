/-! ===== MappingMoves: pure words ===== -/
def isPl (p : Int32) : Bool := !decide (p < 0) && decide (p < 24)
def isMp (p : Int32) : Bool := !decide (p < 0) && decide (p < 4)
def isKN (k : Int32) : Bool := !decide (k < 0) && !decide (6 < k)
def isPt (M : MM) (j : Int32) : Bool := !decide (j < 0) && decide (j < M.1 0 0 3)
abbrev cl (p : Int32) : Nat := p.toNatClampNeg
/-- what the methods of MappingMoves keep: columns in bounds, doubles that go well, at most forty parts -/
def XOK (M : MM) : Prop := (∀ p, p < 30 → cOK M p) ∧ (∀ p i, GR (M.2.2 7 p i)) ∧ ∃ n, n ≤ 40 ∧ M.1 0 0 3 = nI n
theorem isPt_m1 (M : MM) : isPt M (-1) = false := rfl
theorem isPt_sL (M : MM) (a b c : Nat) (v : Int64) (j : Int32) : isPt (sL M a b c v) j = isPt M j := rfl
theorem sL_1 (M : MM) (a b c : Nat) (v : Int64) : (sL M a b c v).1 = M.1 := rfl
theorem vp_of {x : Int32} {n : Nat} (h0 : ¬ x < 0) (h : x.toInt < n) : vp_in x n ∧ x.toNatClampNeg < n := by
  have h1 : (0 : Int) ≤ x.toInt := by
    have := Int32.not_lt.mp h0
    simpa using Int32.le_iff_toInt_le.mp this
  have h2 : x.toNatClampNeg < n := by
    show x.toInt.toNat < n
    omega
  exact ⟨fun q => q.elim h0 (fun q => by omega), h2⟩
theorem isPl_in {p : Int32} (h : isPl p = true) : vp_in p 24 ∧ cl p < 24 := by
  simp only [isPl, Bool.and_eq_true, Bool.not_eq_true', decide_eq_false_iff_not, decide_eq_true_eq] at h
  refine vp_of h.1 ?_
  have := Int32.lt_iff_toInt_lt.mp h.2
  simpa using this
theorem isMp_in {p : Int32} (h : isMp p = true) : ∃ a, a < 4 ∧ p = nI a := by
  simp only [isMp, Bool.and_eq_true, Bool.not_eq_true', decide_eq_false_iff_not, decide_eq_true_eq] at h
  have := Int32.lt_iff_toInt_lt.mp h.2
  obtain ⟨j, hj, rfl⟩ := nI_of h.1
  rw [nI_toInt hj] at this
  exact ⟨j, by have e : (4 : Int32).toInt = 4 := by decide
               omega, rfl⟩
theorem isPt_in {M : MM} {j : Int32} (hM : ∃ n, n ≤ 40 ∧ M.1 0 0 3 = nI n) (h : isPt M j = true) : vp_in j 40 ∧ cl j < 40 := by
  simp only [isPt, Bool.and_eq_true, Bool.not_eq_true', decide_eq_false_iff_not, decide_eq_true_eq] at h
  obtain ⟨n, hn, e⟩ := hM
  rw [e] at h
  have h3 := Int32.lt_iff_toInt_lt.mp h.2
  rw [nI_toInt (by omega)] at h3
  exact vp_of h.1 (by omega)
theorem has_in {M : MM} {p : Nat} {i : Int32} (hc : cOK M p) (hh : inC M p i = true) : vp_in i 40 ∧ cl i < cnt M p := by
  simp only [inC, Bool.and_eq_true, Bool.not_eq_true', decide_eq_false_iff_not, decide_eq_true_eq] at hh
  obtain ⟨h0, h⟩ := hh
  have h3 := Int32.lt_iff_toInt_lt.mp h
  have h1 : (0 : Int) ≤ i.toInt := by
    have := Int32.not_lt.mp h0
    simpa using Int32.le_iff_toInt_le.mp this
  have h4 : (M.1 4 p 1).toInt ≤ 40 ∧ (cnt M p : Int) = (M.1 4 p 1).toInt := by
    rcases hc with e | ⟨n, hn, e⟩
    · rw [e] at h3
      have : (-1 : Int32).toInt = -1 := by decide
      omega
    · unfold cnt
      rw [e, nI_toInt (by omega), nI_clamp (by omega)]
      omega
  refine ⟨(vp_of h0 (by omega)).1, ?_⟩
  show i.toInt.toNat < _
  omega

def SX2_isPlace : SP := fun as M post => match as with
  | [.inl (.int p)] => post (some (.inl (.int (b2i (isPl p = true))))) M
  | _ => False
abbrev rmX2_isPlace : Room := ({ frames := 0, cells := 0, slots := 0, locals := 0 } : Room)
def BX2_isPlace_0 (Qr : Option AV → MM → Prop) (lv : LV) (st : List AV) (M : MM) : Prop := (i_iload 0 (i_if (fun a => a < 0) (i_push (.inl (.int 0)) (i_zret Qr)) (i_iload 0 (i_push (.inl (.int 24)) (i_cmp (fun a b => a < b) (i_push (.inl (.int 1)) (i_zret Qr)) (i_push (.inl (.int 0)) (i_zret Qr))))))) lv st M
set_option maxRecDepth 100000 in
set_option maxHeartbeats 4000000 in
theorem sBX2_isPlace_0 {p : Program} {l : Launch} {e : Env} {s : State} {m : MethodId} {args : Array Value} {below : List Frame} {meth : Method} {c : Code} {G : Nat → Nat → Nat} {cy dC : Nat → ClassId} {dI : Nat → Nat → Nat} {Qr : Option AV → MM → Prop} (F : FX p m c cX2_isPlace 1 RX2 s args (AW G) G cy dC dI) (hr : meth.sig.returnType = (some .boolean)) (hlk : meth.locks = false) : SO p l e rmX2_isPlace s m args below meth c 0 0 (MQ below (QI G cy dC dI Qr) args s 0 0 (AW G)) 1 (AW G) G cy dC dI 0 (BX2_isPlace_0 Qr) := by
  exact (s_iload_n F dX2_isPlace_0 rfl (s_if_lt F dX2_isPlace_1 (by decide) (s_iconst F dX2_isPlace_14 (by decide) (s_zret F dX2_isPlace_15 hr hlk)) (s_iload_n F dX2_isPlace_4 rfl (s_bipush F dX2_isPlace_5 (by decide) (s_icmp_ge F dX2_isPlace_7 (by decide) (s_iconst F dX2_isPlace_14 (by decide) (s_zret F dX2_isPlace_15 hr hlk)) (s_iconst F dX2_isPlace_10 (by decide) (s_goto F dX2_isPlace_11 (by decide) (s_zret F dX2_isPlace_15 hr hlk))))))))
set_option maxRecDepth 100000 in
set_option maxHeartbeats 4000000 in
theorem ctX2_isPlace (l : Launch) : CI l yX2_isPlace (ws_ yX2_isPlace cX2_isPlace 1 (some .boolean)) rmX2_isPlace SX2_isPlace := by
  refine mk_CI (by decide) ?_
  intro p e s m args below meth c G cy dC dI F hr hlk as M post hS
  unfold SX2_isPlace at hS
  split at hS
  · refine ⟨by simp only [lk, wd, rm1, rm2, pick, popn, catS, pushO, aLV, cond_true, cond_false, Bool.not_true, Bool.not_false, Bool.and_true, Bool.and_false, Bool.true_and, Bool.false_and, eq_self, true_and, and_true, Nat.reduceBEq, Nat.reduceAdd, reduceIte, Nat.reduceEqDiff]; decide, sBX2_isPlace_0 F hr hlk _ _ _ ?_⟩
    simp only [BX2_isPlace_0, i_push, i_iload, i_if, i_cmp, i_zret, lk, wd, rm1, rm2, pick, popn, catS, pushO, aLV, cond_true, cond_false, Bool.not_true, Bool.not_false, Bool.and_true, Bool.and_false, Bool.true_and, Bool.false_and, eq_self, true_and, and_true, Nat.reduceBEq, Nat.reduceAdd, reduceIte, Nat.reduceEqDiff]
    try simp only [tCnt, aK, aN, aR, eq_self, true_and, and_true, Nat.reduceLeDiff, Nat.reduceEqDiff]
    (repeat' (first | assumption | exact b2i_1 _ | apply And.intro | intro _)) <;> (first | assumption | decide | (simpa [isPl, b2i, *] using hS) | (simp_all [b2i, isPl, b2i]; done))
  · exact hS.elim
def SX2_isMapping : SP := fun as M post => match as with
  | [.inl (.int p)] => post (some (.inl (.int (b2i (isMp p = true))))) M
  | _ => False
abbrev rmX2_isMapping : Room := ({ frames := 0, cells := 0, slots := 0, locals := 0 } : Room)
def BX2_isMapping_0 (Qr : Option AV → MM → Prop) (lv : LV) (st : List AV) (M : MM) : Prop := (i_iload 0 (i_if (fun a => a < 0) (i_push (.inl (.int 0)) (i_zret Qr)) (i_iload 0 (i_push (.inl (.int 4)) (i_cmp (fun a b => a < b) (i_push (.inl (.int 1)) (i_zret Qr)) (i_push (.inl (.int 0)) (i_zret Qr))))))) lv st M
set_option maxRecDepth 100000 in
set_option maxHeartbeats 4000000 in
theorem sBX2_isMapping_0 {p : Program} {l : Launch} {e : Env} {s : State} {m : MethodId} {args : Array Value} {below : List Frame} {meth : Method} {c : Code} {G : Nat → Nat → Nat} {cy dC : Nat → ClassId} {dI : Nat → Nat → Nat} {Qr : Option AV → MM → Prop} (F : FX p m c cX2_isMapping 1 RX2 s args (AW G) G cy dC dI) (hr : meth.sig.returnType = (some .boolean)) (hlk : meth.locks = false) : SO p l e rmX2_isMapping s m args below meth c 0 0 (MQ below (QI G cy dC dI Qr) args s 0 0 (AW G)) 1 (AW G) G cy dC dI 0 (BX2_isMapping_0 Qr) := by
  exact (s_iload_n F dX2_isMapping_0 rfl (s_if_lt F dX2_isMapping_1 (by decide) (s_iconst F dX2_isMapping_13 (by decide) (s_zret F dX2_isMapping_14 hr hlk)) (s_iload_n F dX2_isMapping_4 rfl (s_iconst F dX2_isMapping_5 (by decide) (s_icmp_ge F dX2_isMapping_6 (by decide) (s_iconst F dX2_isMapping_13 (by decide) (s_zret F dX2_isMapping_14 hr hlk)) (s_iconst F dX2_isMapping_9 (by decide) (s_goto F dX2_isMapping_10 (by decide) (s_zret F dX2_isMapping_14 hr hlk))))))))
set_option maxRecDepth 100000 in
set_option maxHeartbeats 4000000 in
theorem ctX2_isMapping (l : Launch) : CI l yX2_isMapping (ws_ yX2_isMapping cX2_isMapping 1 (some .boolean)) rmX2_isMapping SX2_isMapping := by
  refine mk_CI (by decide) ?_
  intro p e s m args below meth c G cy dC dI F hr hlk as M post hS
  unfold SX2_isMapping at hS
  split at hS
  · refine ⟨by simp only [lk, wd, rm1, rm2, pick, popn, catS, pushO, aLV, cond_true, cond_false, Bool.not_true, Bool.not_false, Bool.and_true, Bool.and_false, Bool.true_and, Bool.false_and, eq_self, true_and, and_true, Nat.reduceBEq, Nat.reduceAdd, reduceIte, Nat.reduceEqDiff]; decide, sBX2_isMapping_0 F hr hlk _ _ _ ?_⟩
    simp only [BX2_isMapping_0, i_push, i_iload, i_if, i_cmp, i_zret, lk, wd, rm1, rm2, pick, popn, catS, pushO, aLV, cond_true, cond_false, Bool.not_true, Bool.not_false, Bool.and_true, Bool.and_false, Bool.true_and, Bool.false_and, eq_self, true_and, and_true, Nat.reduceBEq, Nat.reduceAdd, reduceIte, Nat.reduceEqDiff]
    try simp only [tCnt, aK, aN, aR, eq_self, true_and, and_true, Nat.reduceLeDiff, Nat.reduceEqDiff]
    (repeat' (first | assumption | exact b2i_1 _ | apply And.intro | intro _)) <;> (first | assumption | decide | (simpa [isMp, b2i, *] using hS) | (simp_all [b2i, isMp, b2i]; done))
  · exact hS.elim
def SX2_isKindOfNumbers : SP := fun as M post => match as with
  | [.inl (.int p)] => post (some (.inl (.int (b2i (isKN p = true))))) M
  | _ => False
abbrev rmX2_isKindOfNumbers : Room := ({ frames := 0, cells := 0, slots := 0, locals := 0 } : Room)
def BX2_isKindOfNumbers_0 (Qr : Option AV → MM → Prop) (lv : LV) (st : List AV) (M : MM) : Prop := (i_iload 0 (i_if (fun a => a < 0) (i_push (.inl (.int 0)) (i_zret Qr)) (i_iload 0 (i_push (.inl (.int 6)) (i_cmp (fun a b => b < a) (i_push (.inl (.int 0)) (i_zret Qr)) (i_push (.inl (.int 1)) (i_zret Qr))))))) lv st M
set_option maxRecDepth 100000 in
set_option maxHeartbeats 4000000 in
theorem sBX2_isKindOfNumbers_0 {p : Program} {l : Launch} {e : Env} {s : State} {m : MethodId} {args : Array Value} {below : List Frame} {meth : Method} {c : Code} {G : Nat → Nat → Nat} {cy dC : Nat → ClassId} {dI : Nat → Nat → Nat} {Qr : Option AV → MM → Prop} (F : FX p m c cX2_isKindOfNumbers 1 RX2 s args (AW G) G cy dC dI) (hr : meth.sig.returnType = (some .boolean)) (hlk : meth.locks = false) : SO p l e rmX2_isKindOfNumbers s m args below meth c 0 0 (MQ below (QI G cy dC dI Qr) args s 0 0 (AW G)) 1 (AW G) G cy dC dI 0 (BX2_isKindOfNumbers_0 Qr) := by
  exact (s_iload_n F dX2_isKindOfNumbers_0 rfl (s_if_lt F dX2_isKindOfNumbers_1 (by decide) (s_iconst F dX2_isKindOfNumbers_14 (by decide) (s_zret F dX2_isKindOfNumbers_15 hr hlk)) (s_iload_n F dX2_isKindOfNumbers_4 rfl (s_bipush F dX2_isKindOfNumbers_5 (by decide) (s_icmp_gt F dX2_isKindOfNumbers_7 (by decide) (s_iconst F dX2_isKindOfNumbers_14 (by decide) (s_zret F dX2_isKindOfNumbers_15 hr hlk)) (s_iconst F dX2_isKindOfNumbers_10 (by decide) (s_goto F dX2_isKindOfNumbers_11 (by decide) (s_zret F dX2_isKindOfNumbers_15 hr hlk))))))))
set_option maxRecDepth 100000 in
set_option maxHeartbeats 4000000 in
theorem ctX2_isKindOfNumbers (l : Launch) : CI l yX2_isKindOfNumbers (ws_ yX2_isKindOfNumbers cX2_isKindOfNumbers 1 (some .boolean)) rmX2_isKindOfNumbers SX2_isKindOfNumbers := by
  refine mk_CI (by decide) ?_
  intro p e s m args below meth c G cy dC dI F hr hlk as M post hS
  unfold SX2_isKindOfNumbers at hS
  split at hS
  · refine ⟨by simp only [lk, wd, rm1, rm2, pick, popn, catS, pushO, aLV, cond_true, cond_false, Bool.not_true, Bool.not_false, Bool.and_true, Bool.and_false, Bool.true_and, Bool.false_and, eq_self, true_and, and_true, Nat.reduceBEq, Nat.reduceAdd, reduceIte, Nat.reduceEqDiff]; decide, sBX2_isKindOfNumbers_0 F hr hlk _ _ _ ?_⟩
    simp only [BX2_isKindOfNumbers_0, i_push, i_iload, i_if, i_cmp, i_zret, lk, wd, rm1, rm2, pick, popn, catS, pushO, aLV, cond_true, cond_false, Bool.not_true, Bool.not_false, Bool.and_true, Bool.and_false, Bool.true_and, Bool.false_and, eq_self, true_and, and_true, Nat.reduceBEq, Nat.reduceAdd, reduceIte, Nat.reduceEqDiff]
    try simp only [tCnt, aK, aN, aR, eq_self, true_and, and_true, Nat.reduceLeDiff, Nat.reduceEqDiff]
    (repeat' (first | assumption | exact b2i_1 _ | apply And.intro | intro _)) <;> (first | assumption | decide | (simpa [isKN, b2i, *] using hS) | (simp_all [b2i, isKN, b2i]; done))
  · exact hS.elim
def SX2_isPart : SP := fun as M post => match as with
  | [.inr (t, i0), .inl (.int j)] => t = 0 ∧ i0 = 0 ∧ post (some (.inl (.int (b2i (isPt M j = true))))) M
  | _ => False
abbrev rmX2_isPart : Room := ({ frames := 0, cells := 0, slots := 0, locals := 0 } : Room)
def BX2_isPart_0 (Qr : Option AV → MM → Prop) (lv : LV) (st : List AV) (M : MM) : Prop := (i_iload 1 (i_if (fun a => a < 0) (i_push (.inl (.int 0)) (i_zret Qr)) (i_iload 1 (i_aload 0 (i_getI 0 3 (i_cmp (fun a b => a < b) (i_push (.inl (.int 1)) (i_zret Qr)) (i_push (.inl (.int 0)) (i_zret Qr)))))))) lv st M
set_option maxRecDepth 100000 in
set_option maxHeartbeats 4000000 in
theorem sBX2_isPart_0 {p : Program} {l : Launch} {e : Env} {s : State} {m : MethodId} {args : Array Value} {below : List Frame} {meth : Method} {c : Code} {G : Nat → Nat → Nat} {cy dC : Nat → ClassId} {dI : Nat → Nat → Nat} {Qr : Option AV → MM → Prop} (F : FX p m c cX2_isPart 2 RX2 s args (AW G) G cy dC dI) (hr : meth.sig.returnType = (some .boolean)) (hlk : meth.locks = false) : SO p l e rmX2_isPart s m args below meth c 0 0 (MQ below (QI G cy dC dI Qr) args s 0 0 (AW G)) 2 (AW G) G cy dC dI 0 (BX2_isPart_0 Qr) := by
  exact (s_iload_n F dX2_isPart_0 rfl (s_if_lt F dX2_isPart_1 (by decide) (s_iconst F dX2_isPart_16 (by decide) (s_zret F dX2_isPart_17 hr hlk)) (s_iload_n F dX2_isPart_4 rfl (s_aload_n F dX2_isPart_5 rfl (s_getI F (ci := 2) dX2_isPart_6 rfl in_X2 (by decide) q72 (fun _ _ _ _ => ⟨_, rfl, rfl⟩) (s_icmp_ge F dX2_isPart_9 (by decide) (s_iconst F dX2_isPart_16 (by decide) (s_zret F dX2_isPart_17 hr hlk)) (s_iconst F dX2_isPart_12 (by decide) (s_goto F dX2_isPart_13 (by decide) (s_zret F dX2_isPart_17 hr hlk)))))))))
set_option maxRecDepth 100000 in
set_option maxHeartbeats 4000000 in
theorem ctX2_isPart (l : Launch) : CI l yX2_isPart (ws_ yX2_isPart cX2_isPart 2 (some .boolean)) rmX2_isPart SX2_isPart := by
  refine mk_CI (by decide) ?_
  intro p e s m args below meth c G cy dC dI F hr hlk as M post hS
  unfold SX2_isPart at hS
  split at hS
  · rename_i t i0 j
    obtain ⟨rfl, rfl, hS⟩ := hS
    refine ⟨by simp only [lk, wd, rm1, rm2, pick, popn, catS, pushO, aLV, cond_true, cond_false, Bool.not_true, Bool.not_false, Bool.and_true, Bool.and_false, Bool.true_and, Bool.false_and, eq_self, true_and, and_true, Nat.reduceBEq, Nat.reduceAdd, reduceIte, Nat.reduceEqDiff]; decide, sBX2_isPart_0 F hr hlk _ _ _ ?_⟩
    simp only [BX2_isPart_0, i_push, i_iload, i_aload, i_if, i_cmp, i_getI, i_zret, lk, wd, rm1, rm2, pick, popn, catS, pushO, aLV, cond_true, cond_false, Bool.not_true, Bool.not_false, Bool.and_true, Bool.and_false, Bool.true_and, Bool.false_and, eq_self, true_and, and_true, Nat.reduceBEq, Nat.reduceAdd, reduceIte, Nat.reduceEqDiff]
    try simp only [tCnt, aK, aN, aR, eq_self, true_and, and_true, Nat.reduceLeDiff, Nat.reduceEqDiff]
    (repeat' (first | assumption | exact b2i_1 _ | apply And.intro | intro _)) <;> (first | assumption | decide | (simpa [isPt, b2i, *] using hS) | (simp_all [b2i, isPt, b2i]; done))
  · exact hS.elim
def x_make (M : MM) (p k n : Int32) : Int32 × MM := if isPl p = false ∨ k < 0 ∨ 9 < k ∨ 40 < n then (-1, M) else if n < 0 then (-16, M) else (n, c_begin M (cl p) k n)
def x_let (M : MM) (p : Int32) : Int32 × MM := if isPl p = false then (-1, M) else if M.1 4 (cl p) 1 = -1 then (-11, M) else (M.1 4 (cl p) 1, sI M 4 (cl p) 1 (-1))
def x_drop (M : MM) (p : Int32) : Int32 × MM := if isPl p = false then (-1, M) else if M.1 4 (cl p) 0 = -1 then (0, M) else (1, sI (sI M 4 (cl p) 0 (-1)) 4 (cl p) 1 (-1))
def x_kind (M : MM) (p : Int32) : Int32 := if isPl p = false then -1 else if M.1 4 (cl p) 0 = -1 then -11 else M.1 4 (cl p) 0
def x_length (M : MM) (p : Int32) : Int32 := if isPl p = false then -1 else if M.1 4 (cl p) 1 = -1 then -11 else M.1 4 (cl p) 1
def x_way (M : MM) (p i b : Int32) : Int32 := if isPl p = false then -1 else if M.1 4 (cl p) 0 = -1 then -11 else if ¬ b2i (¬ M.1 4 (cl p) 0 < 7) = b then -13 else if M.1 4 (cl p) 1 = -1 then -11 else if inC M (cl p) i = true then 0 else -12
def SX2_make : SP := fun as M post => match as with
  | [.inr (t, i0), .inl (.int p0), .inl (.int k), .inl (.int n)] => t = 0 ∧ i0 = 0 ∧ post (some (.inl (.int (x_make M p0 k n).1))) (x_make M p0 k n).2
  | _ => False
abbrev rmX2_make : Room := ({ frames := 2, cells := 0, slots := 0, locals := 120 } : Room)
def BX2_make_0 (Qr : Option AV → MM → Prop) (lv : LV) (st : List AV) (M : MM) : Prop := (i_iload 1 (i_call 1 SX2_isPlace (i_if (fun a => a = 0) (i_push (.inl (.int (-1))) (i_iret Qr)) (i_iload 2 (i_if (fun a => a < 0) (i_push (.inl (.int (-1))) (i_iret Qr)) (i_iload 2 (i_push (.inl (.int 9)) (i_cmp (fun a b => b < a) (i_push (.inl (.int (-1))) (i_iret Qr)) (i_iload 3 (i_push (.inl (.int 40)) (i_cmp (fun a b => b < a) (i_push (.inl (.int (-1))) (i_iret Qr)) (i_iload 3 (i_if (fun a => a < 0) (i_push (.inl (.int (-16))) (i_iret Qr)) (i_aload 0 (i_getR 0 1 (fun _ => 0) (i_iload 1 (i_aald (i_iload 2 (i_iload 3 (i_callV 2 4 SX0_begin (i_iload 3 (i_iret Qr)))))))))))))))))))))) lv st M
set_option maxRecDepth 100000 in
set_option maxHeartbeats 4000000 in
theorem sBX2_make_0 {p : Program} {l : Launch} {e : Env} {s : State} {m : MethodId} {args : Array Value} {below : List Frame} {meth : Method} {c : Code} {G : Nat → Nat → Nat} {cy dC : Nat → ClassId} {dI : Nat → Nat → Nat} {Qr : Option AV → MM → Prop} (F : FX p m c cX2_make 4 RX2 s args (AW G) G cy dC dI) (hr : meth.sig.returnType = (some .int)) (hlk : meth.locks = false) : SO p l e rmX2_make s m args below meth c 0 0 (MQ below (QI G cy dC dI Qr) args s 0 0 (AW G)) 4 (AW G) G cy dC dI 0 (BX2_make_0 Qr) := by
  exact (s_iload_n F dX2_make_0 rfl (s_callSi F dX2_make_1 (ctX2_isPlace l) (lw_S q89 q90 q1 q91) ⟨rfl, rfl⟩ (by decide +kernel) (by decide) ⟨Nat.zero_le _, Nat.zero_le _⟩ (s_if_eq F dX2_make_4 (by decide) (s_iconst F dX2_make_23 (by decide) (s_iret F dX2_make_24 hr hlk)) (s_iload_n F dX2_make_7 rfl (s_if_lt F dX2_make_8 (by decide) (s_iconst F dX2_make_23 (by decide) (s_iret F dX2_make_24 hr hlk)) (s_iload_n F dX2_make_11 rfl (s_bipush F dX2_make_12 (by decide) (s_icmp_gt F dX2_make_14 (by decide) (s_iconst F dX2_make_23 (by decide) (s_iret F dX2_make_24 hr hlk)) (s_iload_n F dX2_make_17 rfl (s_bipush F dX2_make_18 (by decide) (s_icmp_le F dX2_make_20 (by decide) (s_iload_n F dX2_make_25 rfl (s_if_ge F dX2_make_26 (by decide) (s_aload_n F dX2_make_32 rfl (s_getR F (ci := 2) (f := 0) dX2_make_33 rfl in_X2 (by decide) q69 (fun _ _ _ _ => ⟨_, rfl, rfl⟩) (s_iload_n F dX2_make_36 rfl (s_aald F dX2_make_37 (s_iload_n F dX2_make_38 rfl (s_iload_n F dX2_make_39 rfl (s_callVv F dX2_make_40 (ctX0_begin l) (lw_V q92 q93 q94 q2 q95) ⟨rfl, rfl⟩ (by decide +kernel) (by decide) ⟨Nat.zero_le _, Nat.zero_le _⟩ (ci := 0) rfl (fun _ _ _ _ => ⟨_, rfl⟩) (s_iload_n F dX2_make_43 rfl (s_iret F dX2_make_44 hr hlk))))))))) (s_bipush F dX2_make_29 (by decide) (s_iret F dX2_make_31 hr hlk)))) (s_iconst F dX2_make_23 (by decide) (s_iret F dX2_make_24 hr hlk)))))))))))))
set_option maxRecDepth 100000 in
set_option maxHeartbeats 4000000 in
theorem ctX2_make (l : Launch) : CI l yX2_make (ws_ yX2_make cX2_make 4 (some .int)) rmX2_make SX2_make := by
  refine mk_CI (by decide) ?_
  intro p e s m args below meth c G cy dC dI F hr hlk as M post hS
  unfold SX2_make at hS
  split at hS
  · rename_i t i0 p0 k n
    obtain ⟨rfl, rfl, hS⟩ := hS
    refine ⟨by simp only [lk, wd, rm1, rm2, pick, popn, catS, pushO, aLV, cond_true, cond_false, Bool.not_true, Bool.not_false, Bool.and_true, Bool.and_false, Bool.true_and, Bool.false_and, eq_self, true_and, and_true, Nat.reduceBEq, Nat.reduceAdd, reduceIte, Nat.reduceEqDiff]; decide, sBX2_make_0 F hr hlk _ _ _ ?_⟩
    simp only [BX2_make_0, i_push, i_iload, i_aload, i_if, i_cmp, i_getR, i_aald, i_call, i_callV, i_iret, lk, wd, rm1, rm2, pick, popn, catS, pushO, aLV, cond_true, cond_false, Bool.not_true, Bool.not_false, Bool.and_true, Bool.and_false, Bool.true_and, Bool.false_and, eq_self, true_and, and_true, Nat.reduceBEq, Nat.reduceAdd, reduceIte, Nat.reduceEqDiff, SX0_begin, SX2_isPlace]
    try simp only [tCnt, aK, aN, aR, eq_self, true_and, and_true, Nat.reduceLeDiff, Nat.reduceEqDiff]
    have hP1 : isPl p0 = true → vp_in p0 24 := fun h => (isPl_in h).1
    have hP2 : isPl p0 = true → cl p0 < 30 := fun h => Nat.lt_trans (isPl_in h).2 (by decide)
    simp only [b2i_0, Bool.not_eq_true, Bool.not_eq_false]
    (repeat' (first | assumption | exact b2i_1 _ | exact hP1 (by assumption) | exact hP2 (by assumption) | apply And.intro | intro _)) <;> (first | assumption | decide | (simp_all [x_make]; done))
  · exact hS.elim
def SX2_let : SP := fun as M post => match as with
  | [.inr (t, i0), .inl (.int p0)] => t = 0 ∧ i0 = 0 ∧ post (some (.inl (.int (x_let M p0).1))) (x_let M p0).2
  | _ => False
abbrev rmX2_let : Room := ({ frames := 1, cells := 0, slots := 0, locals := 60 } : Room)
def BX2_let_0 (Qr : Option AV → MM → Prop) (lv : LV) (st : List AV) (M : MM) : Prop := (i_iload 1 (i_call 1 SX2_isPlace (i_if (fun a => a = 0) (i_push (.inl (.int (-1))) (i_iret Qr)) (i_aload 0 (i_getR 0 1 (fun _ => 0) (i_iload 1 (i_aald (i_astore 2 (i_aload 2 (i_callV 0 4 SX0_isGone (i_if (fun a => a = 0) (i_aload 2 (i_getI 4 1 (i_istore 3 (i_aload 2 (i_callV 0 4 SX0_letGo (i_iload 3 (i_iret Qr))))))) (i_push (.inl (.int (-11))) (i_iret Qr))))))))))))) lv st M
set_option maxRecDepth 100000 in
set_option maxHeartbeats 4000000 in
theorem sBX2_let_0 {p : Program} {l : Launch} {e : Env} {s : State} {m : MethodId} {args : Array Value} {below : List Frame} {meth : Method} {c : Code} {G : Nat → Nat → Nat} {cy dC : Nat → ClassId} {dI : Nat → Nat → Nat} {Qr : Option AV → MM → Prop} (F : FX p m c cX2_let 4 RX2 s args (AW G) G cy dC dI) (hr : meth.sig.returnType = (some .int)) (hlk : meth.locks = false) : SO p l e rmX2_let s m args below meth c 0 0 (MQ below (QI G cy dC dI Qr) args s 0 0 (AW G)) 4 (AW G) G cy dC dI 0 (BX2_let_0 Qr) := by
  exact (s_iload_n F dX2_let_0 rfl (s_callSi F dX2_let_1 (ctX2_isPlace l) (lw_S q89 q90 q1 q91) ⟨rfl, rfl⟩ (by decide +kernel) (by decide) ⟨Nat.zero_le _, Nat.zero_le _⟩ (s_if_ne F dX2_let_4 (by decide) (s_aload_n F dX2_let_9 rfl (s_getR F (ci := 2) (f := 0) dX2_let_10 rfl in_X2 (by decide) q69 (fun _ _ _ _ => ⟨_, rfl, rfl⟩) (s_iload_n F dX2_let_13 rfl (s_aald F dX2_let_14 (s_astore_n F dX2_let_15 rfl (by decide) (s_aload_n F dX2_let_16 rfl (s_callVi F dX2_let_17 (ctX0_isGone l) (lw_V q111 q112 q113 q2 q114) ⟨rfl, rfl⟩ (by decide +kernel) (by decide) ⟨Nat.zero_le _, Nat.zero_le _⟩ (ci := 0) rfl (fun _ _ _ _ => ⟨_, rfl⟩) (s_if_eq F dX2_let_20 (by decide) (s_aload_n F dX2_let_26 rfl (s_getIN F (ci := 0) (host := "MappingMoves") dX2_let_27 rfl in_X0 (by decide) (by decide +kernel) (fun _ _ _ _ => ⟨_, rfl, rfl⟩) (s_istore_n F dX2_let_30 rfl (by decide) (s_aload_n F dX2_let_31 rfl (s_callVv F dX2_let_32 (ctX0_letGo l) (lw_V q115 q116 q117 q2 q118) ⟨rfl, rfl⟩ (by decide +kernel) (by decide) ⟨Nat.zero_le _, Nat.zero_le _⟩ (ci := 0) rfl (fun _ _ _ _ => ⟨_, rfl⟩) (s_iload_n F dX2_let_35 rfl (s_iret F dX2_let_36 hr hlk))))))) (s_bipush F dX2_let_23 (by decide) (s_iret F dX2_let_25 hr hlk)))))))))) (s_iconst F dX2_let_7 (by decide) (s_iret F dX2_let_8 hr hlk)))))
set_option maxRecDepth 100000 in
set_option maxHeartbeats 4000000 in
theorem ctX2_let (l : Launch) : CI l yX2_let (ws_ yX2_let cX2_let 4 (some .int)) rmX2_let SX2_let := by
  refine mk_CI (by decide) ?_
  intro p e s m args below meth c G cy dC dI F hr hlk as M post hS
  unfold SX2_let at hS
  split at hS
  · rename_i t i0 p0
    obtain ⟨rfl, rfl, hS⟩ := hS
    refine ⟨by simp only [lk, wd, rm1, rm2, pick, popn, catS, pushO, aLV, cond_true, cond_false, Bool.not_true, Bool.not_false, Bool.and_true, Bool.and_false, Bool.true_and, Bool.false_and, eq_self, true_and, and_true, Nat.reduceBEq, Nat.reduceAdd, reduceIte, Nat.reduceEqDiff]; decide, sBX2_let_0 F hr hlk _ _ _ ?_⟩
    simp only [BX2_let_0, i_push, i_iload, i_aload, i_istore, i_astore, i_if, i_getI, i_getR, i_aald, i_call, i_callV, i_iret, lk, wd, rm1, rm2, pick, popn, catS, pushO, aLV, cond_true, cond_false, Bool.not_true, Bool.not_false, Bool.and_true, Bool.and_false, Bool.true_and, Bool.false_and, eq_self, true_and, and_true, Nat.reduceBEq, Nat.reduceAdd, reduceIte, Nat.reduceEqDiff, SX0_isGone, SX0_letGo, SX2_isPlace]
    try simp only [tCnt, aK, aN, aR, eq_self, true_and, and_true, Nat.reduceLeDiff, Nat.reduceEqDiff]
    have hP1 : isPl p0 = true → vp_in p0 24 := fun h => (isPl_in h).1
    have hP2 : isPl p0 = true → cl p0 < 30 := fun h => Nat.lt_trans (isPl_in h).2 (by decide)
    simp only [b2i_0, Bool.not_eq_true, Bool.not_eq_false]
    (repeat' (first | assumption | exact b2i_1 _ | exact hP1 (by assumption) | exact hP2 (by assumption) | apply And.intro | intro _)) <;> (first | assumption | decide | (simp_all [x_let]; done))
  · exact hS.elim
def SX2_drop : SP := fun as M post => match as with
  | [.inr (t, i0), .inl (.int p0)] => t = 0 ∧ i0 = 0 ∧ post (some (.inl (.int (x_drop M p0).1))) (x_drop M p0).2
  | _ => False
abbrev rmX2_drop : Room := ({ frames := 1, cells := 0, slots := 0, locals := 60 } : Room)
def BX2_drop_0 (Qr : Option AV → MM → Prop) (lv : LV) (st : List AV) (M : MM) : Prop := (i_iload 1 (i_call 1 SX2_isPlace (i_if (fun a => a = 0) (i_push (.inl (.int (-1))) (i_iret Qr)) (i_aload 0 (i_getR 0 1 (fun _ => 0) (i_iload 1 (i_aald (i_astore 2 (i_aload 2 (i_callV 0 4 SX0_isNone (i_if (fun a => a = 0) (i_aload 2 (i_callV 0 4 SX0_end (i_push (.inl (.int 1)) (i_iret Qr)))) (i_push (.inl (.int 0)) (i_iret Qr))))))))))))) lv st M
set_option maxRecDepth 100000 in
set_option maxHeartbeats 4000000 in
theorem sBX2_drop_0 {p : Program} {l : Launch} {e : Env} {s : State} {m : MethodId} {args : Array Value} {below : List Frame} {meth : Method} {c : Code} {G : Nat → Nat → Nat} {cy dC : Nat → ClassId} {dI : Nat → Nat → Nat} {Qr : Option AV → MM → Prop} (F : FX p m c cX2_drop 3 RX2 s args (AW G) G cy dC dI) (hr : meth.sig.returnType = (some .int)) (hlk : meth.locks = false) : SO p l e rmX2_drop s m args below meth c 0 0 (MQ below (QI G cy dC dI Qr) args s 0 0 (AW G)) 3 (AW G) G cy dC dI 0 (BX2_drop_0 Qr) := by
  exact (s_iload_n F dX2_drop_0 rfl (s_callSi F dX2_drop_1 (ctX2_isPlace l) (lw_S q89 q90 q1 q91) ⟨rfl, rfl⟩ (by decide +kernel) (by decide) ⟨Nat.zero_le _, Nat.zero_le _⟩ (s_if_ne F dX2_drop_4 (by decide) (s_aload_n F dX2_drop_9 rfl (s_getR F (ci := 2) (f := 0) dX2_drop_10 rfl in_X2 (by decide) q69 (fun _ _ _ _ => ⟨_, rfl, rfl⟩) (s_iload_n F dX2_drop_13 rfl (s_aald F dX2_drop_14 (s_astore_n F dX2_drop_15 rfl (by decide) (s_aload_n F dX2_drop_16 rfl (s_callVi F dX2_drop_17 (ctX0_isNone l) (lw_V q123 q124 q125 q2 q126) ⟨rfl, rfl⟩ (by decide +kernel) (by decide) ⟨Nat.zero_le _, Nat.zero_le _⟩ (ci := 0) rfl (fun _ _ _ _ => ⟨_, rfl⟩) (s_if_eq F dX2_drop_20 (by decide) (s_aload_n F dX2_drop_25 rfl (s_callVv F dX2_drop_26 (ctX0_end l) (lw_V q127 q128 q129 q2 q130) ⟨rfl, rfl⟩ (by decide +kernel) (by decide) ⟨Nat.zero_le _, Nat.zero_le _⟩ (ci := 0) rfl (fun _ _ _ _ => ⟨_, rfl⟩) (s_iconst F dX2_drop_29 (by decide) (s_iret F dX2_drop_30 hr hlk)))) (s_iconst F dX2_drop_23 (by decide) (s_iret F dX2_drop_24 hr hlk)))))))))) (s_iconst F dX2_drop_7 (by decide) (s_iret F dX2_drop_8 hr hlk)))))
set_option maxRecDepth 100000 in
set_option maxHeartbeats 4000000 in
theorem ctX2_drop (l : Launch) : CI l yX2_drop (ws_ yX2_drop cX2_drop 3 (some .int)) rmX2_drop SX2_drop := by
  refine mk_CI (by decide) ?_
  intro p e s m args below meth c G cy dC dI F hr hlk as M post hS
  unfold SX2_drop at hS
  split at hS
  · rename_i t i0 p0
    obtain ⟨rfl, rfl, hS⟩ := hS
    refine ⟨by simp only [lk, wd, rm1, rm2, pick, popn, catS, pushO, aLV, cond_true, cond_false, Bool.not_true, Bool.not_false, Bool.and_true, Bool.and_false, Bool.true_and, Bool.false_and, eq_self, true_and, and_true, Nat.reduceBEq, Nat.reduceAdd, reduceIte, Nat.reduceEqDiff]; decide, sBX2_drop_0 F hr hlk _ _ _ ?_⟩
    simp only [BX2_drop_0, i_push, i_iload, i_aload, i_astore, i_if, i_getR, i_aald, i_call, i_callV, i_iret, lk, wd, rm1, rm2, pick, popn, catS, pushO, aLV, cond_true, cond_false, Bool.not_true, Bool.not_false, Bool.and_true, Bool.and_false, Bool.true_and, Bool.false_and, eq_self, true_and, and_true, Nat.reduceBEq, Nat.reduceAdd, reduceIte, Nat.reduceEqDiff, SX0_end, SX0_isNone, SX2_isPlace]
    try simp only [tCnt, aK, aN, aR, eq_self, true_and, and_true, Nat.reduceLeDiff, Nat.reduceEqDiff]
    have hP1 : isPl p0 = true → vp_in p0 24 := fun h => (isPl_in h).1
    have hP2 : isPl p0 = true → cl p0 < 30 := fun h => Nat.lt_trans (isPl_in h).2 (by decide)
    simp only [b2i_0, Bool.not_eq_true, Bool.not_eq_false]
    (repeat' (first | assumption | exact b2i_1 _ | exact hP1 (by assumption) | exact hP2 (by assumption) | apply And.intro | intro _)) <;> (first | assumption | decide | (simp_all [x_drop]; done))
  · exact hS.elim
def SX2_kind : SP := fun as M post => match as with
  | [.inr (t, i0), .inl (.int p0)] => t = 0 ∧ i0 = 0 ∧ post (some (.inl (.int (x_kind M p0)))) M
  | _ => False
abbrev rmX2_kind : Room := ({ frames := 1, cells := 0, slots := 0, locals := 60 } : Room)
def BX2_kind_0 (Qr : Option AV → MM → Prop) (lv : LV) (st : List AV) (M : MM) : Prop := (i_iload 1 (i_call 1 SX2_isPlace (i_if (fun a => a = 0) (i_push (.inl (.int (-1))) (i_iret Qr)) (i_aload 0 (i_getR 0 1 (fun _ => 0) (i_iload 1 (i_aald (i_astore 2 (i_aload 2 (i_callV 0 4 SX0_isNone (i_if (fun a => a = 0) (i_aload 2 (i_getI 4 0 (i_iret Qr))) (i_push (.inl (.int (-11))) (i_iret Qr))))))))))))) lv st M
set_option maxRecDepth 100000 in
set_option maxHeartbeats 4000000 in
theorem sBX2_kind_0 {p : Program} {l : Launch} {e : Env} {s : State} {m : MethodId} {args : Array Value} {below : List Frame} {meth : Method} {c : Code} {G : Nat → Nat → Nat} {cy dC : Nat → ClassId} {dI : Nat → Nat → Nat} {Qr : Option AV → MM → Prop} (F : FX p m c cX2_kind 3 RX2 s args (AW G) G cy dC dI) (hr : meth.sig.returnType = (some .int)) (hlk : meth.locks = false) : SO p l e rmX2_kind s m args below meth c 0 0 (MQ below (QI G cy dC dI Qr) args s 0 0 (AW G)) 3 (AW G) G cy dC dI 0 (BX2_kind_0 Qr) := by
  exact (s_iload_n F dX2_kind_0 rfl (s_callSi F dX2_kind_1 (ctX2_isPlace l) (lw_S q89 q90 q1 q91) ⟨rfl, rfl⟩ (by decide +kernel) (by decide) ⟨Nat.zero_le _, Nat.zero_le _⟩ (s_if_ne F dX2_kind_4 (by decide) (s_aload_n F dX2_kind_9 rfl (s_getR F (ci := 2) (f := 0) dX2_kind_10 rfl in_X2 (by decide) q69 (fun _ _ _ _ => ⟨_, rfl, rfl⟩) (s_iload_n F dX2_kind_13 rfl (s_aald F dX2_kind_14 (s_astore_n F dX2_kind_15 rfl (by decide) (s_aload_n F dX2_kind_16 rfl (s_callVi F dX2_kind_17 (ctX0_isNone l) (lw_V q123 q124 q125 q2 q126) ⟨rfl, rfl⟩ (by decide +kernel) (by decide) ⟨Nat.zero_le _, Nat.zero_le _⟩ (ci := 0) rfl (fun _ _ _ _ => ⟨_, rfl⟩) (s_if_eq F dX2_kind_20 (by decide) (s_aload_n F dX2_kind_28 rfl (s_getIN F (ci := 0) (host := "MappingMoves") dX2_kind_29 rfl in_X0 (by decide) (by decide +kernel) (fun _ _ _ _ => ⟨_, rfl, rfl⟩) (s_iret F dX2_kind_32 hr hlk))) (s_bipush F dX2_kind_23 (by decide) (s_goto F dX2_kind_25 (by decide) (s_iret F dX2_kind_32 hr hlk))))))))))) (s_iconst F dX2_kind_7 (by decide) (s_iret F dX2_kind_8 hr hlk)))))
set_option maxRecDepth 100000 in
set_option maxHeartbeats 4000000 in
theorem ctX2_kind (l : Launch) : CI l yX2_kind (ws_ yX2_kind cX2_kind 3 (some .int)) rmX2_kind SX2_kind := by
  refine mk_CI (by decide) ?_
  intro p e s m args below meth c G cy dC dI F hr hlk as M post hS
  unfold SX2_kind at hS
  split at hS
  · rename_i t i0 p0
    obtain ⟨rfl, rfl, hS⟩ := hS
    refine ⟨by simp only [lk, wd, rm1, rm2, pick, popn, catS, pushO, aLV, cond_true, cond_false, Bool.not_true, Bool.not_false, Bool.and_true, Bool.and_false, Bool.true_and, Bool.false_and, eq_self, true_and, and_true, Nat.reduceBEq, Nat.reduceAdd, reduceIte, Nat.reduceEqDiff]; decide, sBX2_kind_0 F hr hlk _ _ _ ?_⟩
    simp only [BX2_kind_0, i_push, i_iload, i_aload, i_astore, i_if, i_getI, i_getR, i_aald, i_call, i_callV, i_iret, lk, wd, rm1, rm2, pick, popn, catS, pushO, aLV, cond_true, cond_false, Bool.not_true, Bool.not_false, Bool.and_true, Bool.and_false, Bool.true_and, Bool.false_and, eq_self, true_and, and_true, Nat.reduceBEq, Nat.reduceAdd, reduceIte, Nat.reduceEqDiff, SX0_isNone, SX2_isPlace]
    try simp only [tCnt, aK, aN, aR, eq_self, true_and, and_true, Nat.reduceLeDiff, Nat.reduceEqDiff]
    have hP1 : isPl p0 = true → vp_in p0 24 := fun h => (isPl_in h).1
    have hP2 : isPl p0 = true → cl p0 < 30 := fun h => Nat.lt_trans (isPl_in h).2 (by decide)
    simp only [b2i_0, Bool.not_eq_true, Bool.not_eq_false]
    (repeat' (first | assumption | exact b2i_1 _ | exact hP1 (by assumption) | exact hP2 (by assumption) | apply And.intro | intro _)) <;> (first | assumption | decide | (simp_all [x_kind]; done))
  · exact hS.elim
def SX2_length : SP := fun as M post => match as with
  | [.inr (t, i0), .inl (.int p0)] => t = 0 ∧ i0 = 0 ∧ post (some (.inl (.int (x_length M p0)))) M
  | _ => False
abbrev rmX2_length : Room := ({ frames := 1, cells := 0, slots := 0, locals := 60 } : Room)
def BX2_length_0 (Qr : Option AV → MM → Prop) (lv : LV) (st : List AV) (M : MM) : Prop := (i_iload 1 (i_call 1 SX2_isPlace (i_if (fun a => a = 0) (i_push (.inl (.int (-1))) (i_iret Qr)) (i_aload 0 (i_getR 0 1 (fun _ => 0) (i_iload 1 (i_aald (i_astore 2 (i_aload 2 (i_callV 0 4 SX0_isGone (i_if (fun a => a = 0) (i_aload 2 (i_getI 4 1 (i_iret Qr))) (i_push (.inl (.int (-11))) (i_iret Qr))))))))))))) lv st M
set_option maxRecDepth 100000 in
set_option maxHeartbeats 4000000 in
theorem sBX2_length_0 {p : Program} {l : Launch} {e : Env} {s : State} {m : MethodId} {args : Array Value} {below : List Frame} {meth : Method} {c : Code} {G : Nat → Nat → Nat} {cy dC : Nat → ClassId} {dI : Nat → Nat → Nat} {Qr : Option AV → MM → Prop} (F : FX p m c cX2_length 3 RX2 s args (AW G) G cy dC dI) (hr : meth.sig.returnType = (some .int)) (hlk : meth.locks = false) : SO p l e rmX2_length s m args below meth c 0 0 (MQ below (QI G cy dC dI Qr) args s 0 0 (AW G)) 3 (AW G) G cy dC dI 0 (BX2_length_0 Qr) := by
  exact (s_iload_n F dX2_length_0 rfl (s_callSi F dX2_length_1 (ctX2_isPlace l) (lw_S q89 q90 q1 q91) ⟨rfl, rfl⟩ (by decide +kernel) (by decide) ⟨Nat.zero_le _, Nat.zero_le _⟩ (s_if_ne F dX2_length_4 (by decide) (s_aload_n F dX2_length_9 rfl (s_getR F (ci := 2) (f := 0) dX2_length_10 rfl in_X2 (by decide) q69 (fun _ _ _ _ => ⟨_, rfl, rfl⟩) (s_iload_n F dX2_length_13 rfl (s_aald F dX2_length_14 (s_astore_n F dX2_length_15 rfl (by decide) (s_aload_n F dX2_length_16 rfl (s_callVi F dX2_length_17 (ctX0_isGone l) (lw_V q111 q112 q113 q2 q114) ⟨rfl, rfl⟩ (by decide +kernel) (by decide) ⟨Nat.zero_le _, Nat.zero_le _⟩ (ci := 0) rfl (fun _ _ _ _ => ⟨_, rfl⟩) (s_if_eq F dX2_length_20 (by decide) (s_aload_n F dX2_length_28 rfl (s_getIN F (ci := 0) (host := "MappingMoves") dX2_length_29 rfl in_X0 (by decide) (by decide +kernel) (fun _ _ _ _ => ⟨_, rfl, rfl⟩) (s_iret F dX2_length_32 hr hlk))) (s_bipush F dX2_length_23 (by decide) (s_goto F dX2_length_25 (by decide) (s_iret F dX2_length_32 hr hlk))))))))))) (s_iconst F dX2_length_7 (by decide) (s_iret F dX2_length_8 hr hlk)))))
set_option maxRecDepth 100000 in
set_option maxHeartbeats 4000000 in
theorem ctX2_length (l : Launch) : CI l yX2_length (ws_ yX2_length cX2_length 3 (some .int)) rmX2_length SX2_length := by
  refine mk_CI (by decide) ?_
  intro p e s m args below meth c G cy dC dI F hr hlk as M post hS
  unfold SX2_length at hS
  split at hS
  · rename_i t i0 p0
    obtain ⟨rfl, rfl, hS⟩ := hS
    refine ⟨by simp only [lk, wd, rm1, rm2, pick, popn, catS, pushO, aLV, cond_true, cond_false, Bool.not_true, Bool.not_false, Bool.and_true, Bool.and_false, Bool.true_and, Bool.false_and, eq_self, true_and, and_true, Nat.reduceBEq, Nat.reduceAdd, reduceIte, Nat.reduceEqDiff]; decide, sBX2_length_0 F hr hlk _ _ _ ?_⟩
    simp only [BX2_length_0, i_push, i_iload, i_aload, i_astore, i_if, i_getI, i_getR, i_aald, i_call, i_callV, i_iret, lk, wd, rm1, rm2, pick, popn, catS, pushO, aLV, cond_true, cond_false, Bool.not_true, Bool.not_false, Bool.and_true, Bool.and_false, Bool.true_and, Bool.false_and, eq_self, true_and, and_true, Nat.reduceBEq, Nat.reduceAdd, reduceIte, Nat.reduceEqDiff, SX0_isGone, SX2_isPlace]
    try simp only [tCnt, aK, aN, aR, eq_self, true_and, and_true, Nat.reduceLeDiff, Nat.reduceEqDiff]
    have hP1 : isPl p0 = true → vp_in p0 24 := fun h => (isPl_in h).1
    have hP2 : isPl p0 = true → cl p0 < 30 := fun h => Nat.lt_trans (isPl_in h).2 (by decide)
    simp only [b2i_0, Bool.not_eq_true, Bool.not_eq_false]
    (repeat' (first | assumption | exact b2i_1 _ | exact hP1 (by assumption) | exact hP2 (by assumption) | apply And.intro | intro _)) <;> (first | assumption | decide | (simp_all [x_length]; done))
  · exact hS.elim
def SX2_inWayOfCell : SP := fun as M post => match as with
  | [.inr (t, i0), .inl (.int p0), .inl (.int i), .inl (.int b)] => t = 0 ∧ i0 = 0 ∧ post (some (.inl (.int (x_way M p0 i b)))) M
  | _ => False
abbrev rmX2_inWayOfCell : Room := ({ frames := 1, cells := 0, slots := 0, locals := 60 } : Room)
def BX2_inWayOfCell_0 (Qr : Option AV → MM → Prop) (lv : LV) (st : List AV) (M : MM) : Prop := (i_iload 1 (i_call 1 SX2_isPlace (i_if (fun a => a = 0) (i_push (.inl (.int (-1))) (i_iret Qr)) (i_aload 0 (i_getR 0 1 (fun _ => 0) (i_iload 1 (i_aald (i_astore 4 (i_aload 4 (i_callV 0 4 SX0_isNone (i_if (fun a => a = 0) (i_aload 4 (i_callV 0 4 SX0_isShelf (i_iload 3 (i_cmp (fun a b => a = b) (i_aload 4 (i_callV 0 4 SX0_isGone (i_if (fun a => a = 0) (i_aload 4 (i_iload 2 (i_callV 1 4 SX0_hasCell (i_if (fun a => a = 0) (i_push (.inl (.int (-12))) (i_iret Qr)) (i_push (.inl (.int 0)) (i_iret Qr)))))) (i_push (.inl (.int (-11))) (i_iret Qr))))) (i_push (.inl (.int (-13))) (i_iret Qr)))))) (i_push (.inl (.int (-11))) (i_iret Qr))))))))))))) lv st M
set_option maxRecDepth 100000 in
set_option maxHeartbeats 4000000 in
theorem sBX2_inWayOfCell_0 {p : Program} {l : Launch} {e : Env} {s : State} {m : MethodId} {args : Array Value} {below : List Frame} {meth : Method} {c : Code} {G : Nat → Nat → Nat} {cy dC : Nat → ClassId} {dI : Nat → Nat → Nat} {Qr : Option AV → MM → Prop} (F : FX p m c cX2_inWayOfCell 5 RX2 s args (AW G) G cy dC dI) (hr : meth.sig.returnType = (some .int)) (hlk : meth.locks = false) : SO p l e rmX2_inWayOfCell s m args below meth c 0 0 (MQ below (QI G cy dC dI Qr) args s 0 0 (AW G)) 5 (AW G) G cy dC dI 0 (BX2_inWayOfCell_0 Qr) := by
  exact (s_iload_n F dX2_inWayOfCell_0 rfl (s_callSi F dX2_inWayOfCell_1 (ctX2_isPlace l) (lw_S q89 q90 q1 q91) ⟨rfl, rfl⟩ (by decide +kernel) (by decide) ⟨Nat.zero_le _, Nat.zero_le _⟩ (s_if_ne F dX2_inWayOfCell_4 (by decide) (s_aload_n F dX2_inWayOfCell_9 rfl (s_getR F (ci := 2) (f := 0) dX2_inWayOfCell_10 rfl in_X2 (by decide) q69 (fun _ _ _ _ => ⟨_, rfl, rfl⟩) (s_iload_n F dX2_inWayOfCell_13 rfl (s_aald F dX2_inWayOfCell_14 (s_astore F dX2_inWayOfCell_15 (by decide) (s_aload F dX2_inWayOfCell_17 (s_callVi F dX2_inWayOfCell_19 (ctX0_isNone l) (lw_V q123 q124 q125 q2 q126) ⟨rfl, rfl⟩ (by decide +kernel) (by decide) ⟨Nat.zero_le _, Nat.zero_le _⟩ (ci := 0) rfl (fun _ _ _ _ => ⟨_, rfl⟩) (s_if_eq F dX2_inWayOfCell_22 (by decide) (s_aload F dX2_inWayOfCell_28 (s_callVi F dX2_inWayOfCell_30 (ctX0_isShelf l) (lw_V q147 q97 q98 q2 q99) ⟨rfl, rfl⟩ (by decide +kernel) (by decide) ⟨Nat.zero_le _, Nat.zero_le _⟩ (ci := 0) rfl (fun _ _ _ _ => ⟨_, rfl⟩) (s_iload_n F dX2_inWayOfCell_33 rfl (s_icmp_eq F dX2_inWayOfCell_34 (by decide) (s_aload F dX2_inWayOfCell_40 (s_callVi F dX2_inWayOfCell_42 (ctX0_isGone l) (lw_V q111 q112 q113 q2 q114) ⟨rfl, rfl⟩ (by decide +kernel) (by decide) ⟨Nat.zero_le _, Nat.zero_le _⟩ (ci := 0) rfl (fun _ _ _ _ => ⟨_, rfl⟩) (s_if_eq F dX2_inWayOfCell_45 (by decide) (s_aload F dX2_inWayOfCell_51 (s_iload_n F dX2_inWayOfCell_53 rfl (s_callVi F dX2_inWayOfCell_54 (ctX0_hasCell l) (lw_V q148 q149 q150 q2 q151) ⟨rfl, rfl⟩ (by decide +kernel) (by decide) ⟨Nat.zero_le _, Nat.zero_le _⟩ (ci := 0) rfl (fun _ _ _ _ => ⟨_, rfl⟩) (s_if_eq F dX2_inWayOfCell_57 (by decide) (s_bipush F dX2_inWayOfCell_64 (by decide) (s_iret F dX2_inWayOfCell_66 hr hlk)) (s_iconst F dX2_inWayOfCell_60 (by decide) (s_goto F dX2_inWayOfCell_61 (by decide) (s_iret F dX2_inWayOfCell_66 hr hlk))))))) (s_bipush F dX2_inWayOfCell_48 (by decide) (s_iret F dX2_inWayOfCell_50 hr hlk))))) (s_bipush F dX2_inWayOfCell_37 (by decide) (s_iret F dX2_inWayOfCell_39 hr hlk)))))) (s_bipush F dX2_inWayOfCell_25 (by decide) (s_iret F dX2_inWayOfCell_27 hr hlk)))))))))) (s_iconst F dX2_inWayOfCell_7 (by decide) (s_iret F dX2_inWayOfCell_8 hr hlk)))))
set_option maxRecDepth 100000 in
set_option maxHeartbeats 4000000 in
theorem ctX2_inWayOfCell (l : Launch) : CI l yX2_inWayOfCell (ws_ yX2_inWayOfCell cX2_inWayOfCell 5 (some .int)) rmX2_inWayOfCell SX2_inWayOfCell := by
  refine mk_CI (by decide) ?_
  intro p e s m args below meth c G cy dC dI F hr hlk as M post hS
  unfold SX2_inWayOfCell at hS
  split at hS
  · rename_i t i0 p0 i b
    obtain ⟨rfl, rfl, hS⟩ := hS
    refine ⟨by simp only [lk, wd, rm1, rm2, pick, popn, catS, pushO, aLV, cond_true, cond_false, Bool.not_true, Bool.not_false, Bool.and_true, Bool.and_false, Bool.true_and, Bool.false_and, eq_self, true_and, and_true, Nat.reduceBEq, Nat.reduceAdd, reduceIte, Nat.reduceEqDiff]; decide, sBX2_inWayOfCell_0 F hr hlk _ _ _ ?_⟩
    simp only [BX2_inWayOfCell_0, i_push, i_iload, i_aload, i_astore, i_if, i_cmp, i_getR, i_aald, i_call, i_callV, i_iret, lk, wd, rm1, rm2, pick, popn, catS, pushO, aLV, cond_true, cond_false, Bool.not_true, Bool.not_false, Bool.and_true, Bool.and_false, Bool.true_and, Bool.false_and, eq_self, true_and, and_true, Nat.reduceBEq, Nat.reduceAdd, reduceIte, Nat.reduceEqDiff, SX0_hasCell, SX0_isGone, SX0_isNone, SX0_isShelf, SX2_isPlace]
    try simp only [tCnt, aK, aN, aR, eq_self, true_and, and_true, Nat.reduceLeDiff, Nat.reduceEqDiff]
    have hP1 : isPl p0 = true → vp_in p0 24 := fun h => (isPl_in h).1
    have hP2 : isPl p0 = true → cl p0 < 30 := fun h => Nat.lt_trans (isPl_in h).2 (by decide)
    simp only [b2i_0, Bool.not_eq_true, Bool.not_eq_false]
    (repeat' (first | assumption | exact b2i_1 _ | exact hP1 (by assumption) | exact hP2 (by assumption) | apply And.intro | intro _)) <;> (first | assumption | decide | (simp_all [x_way]; done))
  · exact hS.elim
