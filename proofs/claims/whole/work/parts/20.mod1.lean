/-! ===== MappingMovesModel: pure words ===== -/
def inR (v lo hi : Int32) : Bool := !decide (v < lo) && !decide (hi < v)
theorem inR_pl (p : Int32) : inR p 0 23 = isPl p := by
  unfold inR isPl
  congr 1
  rw [← decide_not]
  congr 1
  rw [Int32.lt_iff_toInt_lt, Int32.lt_iff_toInt_lt]
  have e1 : (23 : Int32).toInt = 23 := by decide
  have e2 : (24 : Int32).toInt = 24 := by decide
  rw [e1, e2]
  exact propext (by omega)
theorem inR_kn (k : Int32) : inR k 0 6 = isKN k := rfl
def mcnt (N : MM) (p : Nat) : Nat := (N.1 10 0 p).toNatClampNeg
def mHas (N : MM) (p : Nat) (i : Int32) : Bool := !decide (i < 0) && decide (i < N.1 10 0 p)
def mNone (N : MM) (p : Nat) : Bool := decide (N.1 9 0 p = -1) || !decide (N.1 11 0 p = 0)
def mWay (N : MM) (p : Nat) (b : Int32) : Int32 := if N.1 9 0 p = -1 then -11 else if ¬ b2i (¬ N.1 9 0 p < 7) = b then -13 else if N.1 11 0 p = 0 then 0 else -11
/-- a shelf's cell: empty, or a part's number -/
def pOK (v : Int64) : Prop := v < 0 ∨ ∃ j, j < 40 ∧ v = lN j
def MOK (N : MM) : Prop := (∀ p, p < 24 → ∃ n, n ≤ 40 ∧ N.1 10 0 p = nI n) ∧ (∀ i, GR (N.2.2 13 0 i)) ∧ (∃ n, n ≤ 40 ∧ N.1 8 0 11 = nI n) ∧ ∀ p i, p < 24 → i < mcnt N p → ¬ N.1 9 0 p < 7 → pOK (N.2.1 12 0 (40 * p + i))
abbrev z0 (M : MM) : MM := sI M 8 0 0 0
theorem sI_o {M : MM} {t i k t' : Nat} {v : Int32} (h : ¬ t' = t) : (sI M t i k v).1 t' = M.1 t' := by
  funext a b
  simp only [sI]
  rw [if_neg (fun q => h q.1)]
theorem sI_s {M : MM} {t i k : Nat} {v : Int32} : (sI M t i k v).1 t i k = v := by simp [sI]
theorem nar0 : vp_nar .boolean 0 = 0 := by decide
theorem nar1 : vp_nar .boolean 1 = 1 := by decide
theorem mHas_in {N : MM} {p : Nat} {i : Int32} (hM : MOK N) (hp : p < 24) (h : mHas N p i = true) : ¬ i < 0 ∧ cl i < mcnt N p ∧ cl i < 40 := by
  simp only [mHas, Bool.and_eq_true, Bool.not_eq_true', decide_eq_false_iff_not, decide_eq_true_eq] at h
  obtain ⟨n, hn, e⟩ := hM.1 p hp
  obtain ⟨j, hj, rfl⟩ := nI_of h.1
  have h2 := h.2
  rw [e] at h2
  have h3 := (nI_ltI (a := j) (b := n) hj (by omega)).mp h2
  unfold cl mcnt
  rw [e, nI_clamp hj, nI_clamp (by omega)]
  exact ⟨h.1, h3, by omega⟩
theorem ix40 {p i : Int32} (hp : isPl p = true) (h0 : ¬ i < 0) (hi : cl i < 40) : 40 * p + i = nI (40 * cl p + cl i) := by
  have h1 : ¬ p < 0 := by
    simp only [isPl, Bool.and_eq_true, Bool.not_eq_true', decide_eq_false_iff_not, decide_eq_true_eq] at hp
    exact hp.1
  have e1 := nI_cl h1
  have e2 := nI_cl h0
  rw [show (40 : Int32) = nI 40 from rfl]
  conv => lhs; rw [e1, e2]
  rw [pk_mul, nI_add]
theorem ix_v {p i : Int32} (hp : isPl p = true) (h0 : ¬ i < 0) (hi : cl i < 40) : vp_in (40 * p + i) 960 ∧ cl (40 * p + i) = 40 * cl p + cl i := by
  have h2 := (isPl_in hp).2
  rw [ix40 hp h0 hi]
  exact ⟨vin (by omega) (by omega), ncl (by omega)⟩
def mLow (k : Int32) (v : Int64) : Int64 := if k = 0 then v.toInt32.toInt8.toInt32.toInt64 else if k = 1 then v.toInt32.toInt16.toInt32.toInt64 else if k = 2 then v &&& 65535 else if k = 3 then v.toInt32.toInt64 else v
def mFits (k : Int32) (v : Int64) : Bool := decide (lg_cmp (mLow k v) v = 0)
def mInL (d : UInt64) : Bool := !decide (Op.cmpValue (FP.dcmp d cm63) .l < 0) && decide (Op.cmpValue (FP.dcmp d c63) .g < 0)
def mTel (N : MM) (p i : Nat) : Int64 := if N.1 9 0 p = 5 then FP.f2l (FP.fmul (FP.d2f (N.2.2 13 0 (40 * p + i))) f8) else if N.1 9 0 p = 6 then FP.d2l (FP.dmul (N.2.2 13 0 (40 * p + i)) c8) else N.2.1 12 0 (40 * p + i)
def mCan (N : MM) (a : Nat) (f t : Int32) : Bool := if f < 5 then (if t < 5 then mFits t (N.2.1 12 0 a) else if t = 5 then mInL (FP.f2d (FP.l2f (N.2.1 12 0 a))) && decide (lg_cmp (FP.d2l (FP.f2d (FP.l2f (N.2.1 12 0 a)))) (N.2.1 12 0 a) = 0) else mInL (FP.l2d (N.2.1 12 0 a)) && decide (lg_cmp (FP.d2l (FP.l2d (N.2.1 12 0 a))) (N.2.1 12 0 a) = 0))
  else if t < 5 then mInL (N.2.2 13 0 a) && decide (Op.cmpValue (FP.dcmp (FP.l2d (FP.d2l (N.2.2 13 0 a))) (N.2.2 13 0 a)) .l = 0) && mFits t (FP.d2l (N.2.2 13 0 a)) else if t = 6 then true else decide (Op.cmpValue (FP.dcmp (FP.f2d (FP.d2f (N.2.2 13 0 a))) (N.2.2 13 0 a)) .l = 0)
def mTak (N : MM) (k : Int32) (v : Int64) : Bool := decide (lg_cmp v 0 < 0) || decide (k = 7) || decide (N.1 19 0 (cl v.toInt32) = k - 7)
def m_let (N : MM) (p : Int32) : Int32 × MM := if isPl p = false then (-1, N) else if mNone N (cl p) = true then (-11, N) else (N.1 10 0 (cl p), sI (sI N 10 0 (cl p) 0) 11 0 (cl p) 1)
def m_drop (N : MM) (p : Int32) : Int32 × MM := if isPl p = false then (-1, N) else (if N.1 9 0 (cl p) = -1 then 0 else 1, sI (sI (sI N 9 0 (cl p) (-1)) 10 0 (cl p) 0) 11 0 (cl p) 0)
def m_kind (N : MM) (p : Int32) : Int32 := if isPl p = false then -1 else if N.1 9 0 (cl p) = -1 then -11 else N.1 9 0 (cl p)
def m_length (N : MM) (p : Int32) : Int32 := if isPl p = false then -1 else if mNone N (cl p) = true then -11 else N.1 10 0 (cl p)

def SX3_in : SP := fun as M post => match as with
  | [.inl (.int v), .inl (.int lo), .inl (.int hi)] => post (some (.inl (.int (b2i (inR v lo hi = true))))) M
  | _ => False
abbrev rmX3_in : Room := ({ frames := 0, cells := 0, slots := 0, locals := 0 } : Room)
def BX3_in_0 (Qr : Option AV → MM → Prop) (lv : LV) (st : List AV) (M : MM) : Prop := (i_iload 0 (i_iload 1 (i_cmp (fun a b => a < b) (i_push (.inl (.int 0)) (i_zret Qr)) (i_iload 0 (i_iload 2 (i_cmp (fun a b => b < a) (i_push (.inl (.int 0)) (i_zret Qr)) (i_push (.inl (.int 1)) (i_zret Qr)))))))) lv st M
set_option maxRecDepth 100000 in
set_option maxHeartbeats 4000000 in
theorem sBX3_in_0 {p : Program} {l : Launch} {e : Env} {s : State} {m : MethodId} {args : Array Value} {below : List Frame} {meth : Method} {c : Code} {G : Nat → Nat → Nat} {cy dC : Nat → ClassId} {dI : Nat → Nat → Nat} {Qr : Option AV → MM → Prop} (F : FX p m c cX3_in 3 RX3 s args (AW G) G cy dC dI) (hr : meth.sig.returnType = (some .boolean)) (hlk : meth.locks = false) : SO p l e rmX3_in s m args below meth c 0 0 (MQ below (QI G cy dC dI Qr) args s 0 0 (AW G)) 3 (AW G) G cy dC dI 0 (BX3_in_0 Qr) := by
  exact (s_iload_n F dX3_in_0 rfl (s_iload_n F dX3_in_1 rfl (s_icmp_lt F dX3_in_2 (by decide) (s_iconst F dX3_in_14 (by decide) (s_zret F dX3_in_15 hr hlk)) (s_iload_n F dX3_in_5 rfl (s_iload_n F dX3_in_6 rfl (s_icmp_gt F dX3_in_7 (by decide) (s_iconst F dX3_in_14 (by decide) (s_zret F dX3_in_15 hr hlk)) (s_iconst F dX3_in_10 (by decide) (s_goto F dX3_in_11 (by decide) (s_zret F dX3_in_15 hr hlk)))))))))
set_option maxRecDepth 100000 in
set_option maxHeartbeats 4000000 in
theorem ctX3_in (l : Launch) : CI l yX3_in (ws_ yX3_in cX3_in 3 (some .boolean)) rmX3_in SX3_in := by
  refine mk_CI (by decide) ?_
  intro p e s m args below meth c G cy dC dI F hr hlk as M post hS
  unfold SX3_in at hS
  split at hS
  · refine ⟨by simp only [lk, wd, rm1, rm2, pick, popn, catS, pushO, aLV, cond_true, cond_false, Bool.not_true, Bool.not_false, Bool.and_true, Bool.and_false, Bool.true_and, Bool.false_and, eq_self, true_and, and_true, Nat.reduceBEq, Nat.reduceAdd, reduceIte, Nat.reduceEqDiff]; decide, sBX3_in_0 F hr hlk _ _ _ ?_⟩
    simp only [BX3_in_0, i_push, i_iload, i_cmp, i_zret, lk, wd, rm1, rm2, pick, popn, catS, pushO, aLV, cond_true, cond_false, Bool.not_true, Bool.not_false, Bool.and_true, Bool.and_false, Bool.true_and, Bool.false_and, eq_self, true_and, and_true, Nat.reduceBEq, Nat.reduceAdd, reduceIte, Nat.reduceEqDiff]
    try simp only [tCnt, aK, aN, aR, eq_self, true_and, and_true, Nat.reduceLeDiff, Nat.reduceEqDiff]
    (repeat' (first | assumption | exact b2i_1 _ | apply And.intro | intro _)) <;> (first | assumption | decide | (simpa [inR, b2i, *] using hS) | (simp_all [b2i, inR, b2i]; done))
  · exact hS.elim
def SX3_isPlace : SP := fun as M post => match as with
  | [.inl (.int p)] => post (some (.inl (.int (b2i (isPl p = true))))) M
  | _ => False
abbrev rmX3_isPlace : Room := ({ frames := 1, cells := 0, slots := 0, locals := 60 } : Room)
def BX3_isPlace_0 (Qr : Option AV → MM → Prop) (lv : LV) (st : List AV) (M : MM) : Prop := (i_iload 0 (i_push (.inl (.int 0)) (i_push (.inl (.int 23)) (i_call 3 SX3_in (i_zret Qr))))) lv st M
set_option maxRecDepth 100000 in
set_option maxHeartbeats 4000000 in
theorem sBX3_isPlace_0 {p : Program} {l : Launch} {e : Env} {s : State} {m : MethodId} {args : Array Value} {below : List Frame} {meth : Method} {c : Code} {G : Nat → Nat → Nat} {cy dC : Nat → ClassId} {dI : Nat → Nat → Nat} {Qr : Option AV → MM → Prop} (F : FX p m c cX3_isPlace 1 RX3 s args (AW G) G cy dC dI) (hr : meth.sig.returnType = (some .boolean)) (hlk : meth.locks = false) : SO p l e rmX3_isPlace s m args below meth c 0 0 (MQ below (QI G cy dC dI Qr) args s 0 0 (AW G)) 1 (AW G) G cy dC dI 0 (BX3_isPlace_0 Qr) := by
  exact (s_iload_n F dX3_isPlace_0 rfl (s_iconst F dX3_isPlace_1 (by decide) (s_bipush F dX3_isPlace_2 (by decide) (s_callSi F dX3_isPlace_4 (ctX3_in l) (lw_S q532 q533 q4 q534) ⟨rfl, rfl⟩ (by decide +kernel) (by decide) ⟨Nat.zero_le _, Nat.zero_le _⟩ (s_zret F dX3_isPlace_7 hr hlk)))))
set_option maxRecDepth 100000 in
set_option maxHeartbeats 4000000 in
theorem ctX3_isPlace (l : Launch) : CI l yX3_isPlace (ws_ yX3_isPlace cX3_isPlace 1 (some .boolean)) rmX3_isPlace SX3_isPlace := by
  refine mk_CI (by decide) ?_
  intro p e s m args below meth c G cy dC dI F hr hlk as M post hS
  unfold SX3_isPlace at hS
  split at hS
  · refine ⟨by simp only [lk, wd, rm1, rm2, pick, popn, catS, pushO, aLV, cond_true, cond_false, Bool.not_true, Bool.not_false, Bool.and_true, Bool.and_false, Bool.true_and, Bool.false_and, eq_self, true_and, and_true, Nat.reduceBEq, Nat.reduceAdd, reduceIte, Nat.reduceEqDiff]; decide, sBX3_isPlace_0 F hr hlk _ _ _ ?_⟩
    simp only [BX3_isPlace_0, i_push, i_iload, i_call, i_zret, lk, wd, rm1, rm2, pick, popn, catS, pushO, aLV, cond_true, cond_false, Bool.not_true, Bool.not_false, Bool.and_true, Bool.and_false, Bool.true_and, Bool.false_and, eq_self, true_and, and_true, Nat.reduceBEq, Nat.reduceAdd, reduceIte, Nat.reduceEqDiff, SX3_in]
    try simp only [tCnt, aK, aN, aR, eq_self, true_and, and_true, Nat.reduceLeDiff, Nat.reduceEqDiff]
    simp only [inR_pl]
    exact ⟨b2i_1 _, hS⟩
  · exact hS.elim
def SX3_has : SP := fun as M post => match as with
  | [.inr (t, i0), .inl (.int p0), .inl (.int i)] => t = 8 ∧ i0 = 0 ∧ vp_in p0 24 ∧ post (some (.inl (.int (b2i (mHas M (cl p0) i = true))))) M
  | _ => False
abbrev rmX3_has : Room := ({ frames := 0, cells := 0, slots := 0, locals := 0 } : Room)
def BX3_has_0 (Qr : Option AV → MM → Prop) (lv : LV) (st : List AV) (M : MM) : Prop := (i_iload 2 (i_if (fun a => a < 0) (i_push (.inl (.int 0)) (i_zret Qr)) (i_iload 2 (i_aload 0 (i_getR 8 10 (fun _ => 0) (i_iload 1 (i_iald 0 (i_cmp (fun a b => a < b) (i_push (.inl (.int 1)) (i_zret Qr)) (i_push (.inl (.int 0)) (i_zret Qr)))))))))) lv st M
set_option maxRecDepth 100000 in
set_option maxHeartbeats 4000000 in
theorem sBX3_has_0 {p : Program} {l : Launch} {e : Env} {s : State} {m : MethodId} {args : Array Value} {below : List Frame} {meth : Method} {c : Code} {G : Nat → Nat → Nat} {cy dC : Nat → ClassId} {dI : Nat → Nat → Nat} {Qr : Option AV → MM → Prop} (F : FX p m c cX3_has 3 RX3 s args (AW G) G cy dC dI) (hr : meth.sig.returnType = (some .boolean)) (hlk : meth.locks = false) : SO p l e rmX3_has s m args below meth c 0 0 (MQ below (QI G cy dC dI Qr) args s 0 0 (AW G)) 3 (AW G) G cy dC dI 0 (BX3_has_0 Qr) := by
  exact (s_iload_n F dX3_has_0 rfl (s_if_lt F dX3_has_1 (by decide) (s_iconst F dX3_has_18 (by decide) (s_zret F dX3_has_19 hr hlk)) (s_iload_n F dX3_has_4 rfl (s_aload_n F dX3_has_5 rfl (s_getR F (ci := 3) (f := 2) dX3_has_6 rfl in_X3 (by decide) q469 (fun _ _ _ _ => ⟨_, rfl, rfl⟩) (s_iload_n F dX3_has_9 rfl (s_iald F dX3_has_10 (s_icmp_ge F dX3_has_11 (by decide) (s_iconst F dX3_has_18 (by decide) (s_zret F dX3_has_19 hr hlk)) (s_iconst F dX3_has_14 (by decide) (s_goto F dX3_has_15 (by decide) (s_zret F dX3_has_19 hr hlk)))))))))))
set_option maxRecDepth 100000 in
set_option maxHeartbeats 4000000 in
theorem ctX3_has (l : Launch) : CI l yX3_has (ws_ yX3_has cX3_has 3 (some .boolean)) rmX3_has SX3_has := by
  refine mk_CI (by decide) ?_
  intro p e s m args below meth c G cy dC dI F hr hlk as M post hS
  unfold SX3_has at hS
  split at hS
  · rename_i t i0 p0 i
    obtain ⟨rfl, rfl, hv, hS⟩ := hS
    refine ⟨by simp only [lk, wd, rm1, rm2, pick, popn, catS, pushO, aLV, cond_true, cond_false, Bool.not_true, Bool.not_false, Bool.and_true, Bool.and_false, Bool.true_and, Bool.false_and, eq_self, true_and, and_true, Nat.reduceBEq, Nat.reduceAdd, reduceIte, Nat.reduceEqDiff]; decide, sBX3_has_0 F hr hlk _ _ _ ?_⟩
    simp only [BX3_has_0, i_push, i_iload, i_aload, i_if, i_cmp, i_getR, i_iald, i_zret, lk, wd, rm1, rm2, pick, popn, catS, pushO, aLV, cond_true, cond_false, Bool.not_true, Bool.not_false, Bool.and_true, Bool.and_false, Bool.true_and, Bool.false_and, eq_self, true_and, and_true, Nat.reduceBEq, Nat.reduceAdd, reduceIte, Nat.reduceEqDiff]
    try simp only [tCnt, aK, aN, aR, eq_self, true_and, and_true, Nat.reduceLeDiff, Nat.reduceEqDiff]
    (try simp only [b2i_0, Bool.not_eq_true, Bool.not_eq_false])
    (repeat' (first | with_reducible assumption | exact b2i_1 _ | apply And.intro | intro _)) <;> (first | with_reducible assumption | decide | (simpa [mHas, b2i, *] using hS) | (simp_all [mHas, b2i]; done))
  · exact hS.elim
def SX3_way : SP := fun as M post => match as with
  | [.inr (t, i0), .inl (.int p0), .inl (.int b)] => t = 8 ∧ i0 = 0 ∧ vp_in p0 24 ∧ post (some (.inl (.int (mWay M (cl p0) b)))) M
  | _ => False
abbrev rmX3_way : Room := ({ frames := 0, cells := 0, slots := 0, locals := 0 } : Room)
def BX3_way_29 (Qr : Option AV → MM → Prop) (lv : LV) (st : List AV) (M : MM) : Prop := (i_iload 2 (i_cmp (fun a b => a = b) (i_aload 0 (i_getR 8 11 (fun _ => 0) (i_iload 1 (i_iald 1 (i_if (fun a => a = 0) (i_push (.inl (.int 0)) (i_iret Qr)) (i_push (.inl (.int (-11))) (i_iret Qr))))))) (i_push (.inl (.int (-13))) (i_iret Qr)))) lv st M
set_option maxRecDepth 100000 in
set_option maxHeartbeats 4000000 in
theorem sBX3_way_29 {p : Program} {l : Launch} {e : Env} {s : State} {m : MethodId} {args : Array Value} {below : List Frame} {meth : Method} {c : Code} {G : Nat → Nat → Nat} {cy dC : Nat → ClassId} {dI : Nat → Nat → Nat} {Qr : Option AV → MM → Prop} (F : FX p m c cX3_way 3 RX3 s args (AW G) G cy dC dI) (hr : meth.sig.returnType = (some .int)) (hlk : meth.locks = false) : SO p l e rmX3_way s m args below meth c 0 0 (MQ below (QI G cy dC dI Qr) args s 0 0 (AW G)) 3 (AW G) G cy dC dI 29 (BX3_way_29 Qr) := by
  exact (s_iload_n F dX3_way_29 rfl (s_icmp_eq F dX3_way_30 (by decide) (s_aload_n F dX3_way_36 rfl (s_getR F (ci := 3) (f := 3) dX3_way_37 rfl in_X3 (by decide) q470 (fun _ _ _ _ => ⟨_, rfl, rfl⟩) (s_iload_n F dX3_way_40 rfl (s_zald F dX3_way_41 (s_if_eq F dX3_way_42 (by decide) (s_iconst F dX3_way_50 (by decide) (s_iret F dX3_way_51 hr hlk)) (s_bipush F dX3_way_45 (by decide) (s_goto F dX3_way_47 (by decide) (s_iret F dX3_way_51 hr hlk)))))))) (s_bipush F dX3_way_33 (by decide) (s_iret F dX3_way_35 hr hlk))))
def BX3_way_0 (Qr : Option AV → MM → Prop) (lv : LV) (st : List AV) (M : MM) : Prop := (i_aload 0 (i_getR 8 9 (fun _ => 0) (i_iload 1 (i_iald 0 (i_push (.inl (.int (-1))) (i_cmp (fun a b => a = b) (i_push (.inl (.int (-11))) (i_iret Qr)) (i_aload 0 (i_getR 8 9 (fun _ => 0) (i_iload 1 (i_iald 0 (i_push (.inl (.int 7)) (i_cmp (fun a b => a < b) (i_push (.inl (.int 0)) (i_cut [0, 1, 2] (BX3_way_29 Qr))) (i_push (.inl (.int 1)) (i_cut [0, 1, 2] (BX3_way_29 Qr))))))))))))))) lv st M
set_option maxRecDepth 100000 in
set_option maxHeartbeats 4000000 in
theorem sBX3_way_0 {p : Program} {l : Launch} {e : Env} {s : State} {m : MethodId} {args : Array Value} {below : List Frame} {meth : Method} {c : Code} {G : Nat → Nat → Nat} {cy dC : Nat → ClassId} {dI : Nat → Nat → Nat} {Qr : Option AV → MM → Prop} (F : FX p m c cX3_way 3 RX3 s args (AW G) G cy dC dI) (hr : meth.sig.returnType = (some .int)) (hlk : meth.locks = false) : SO p l e rmX3_way s m args below meth c 0 0 (MQ below (QI G cy dC dI Qr) args s 0 0 (AW G)) 3 (AW G) G cy dC dI 0 (BX3_way_0 Qr) := by
  exact (s_aload_n F dX3_way_0 rfl (s_getR F (ci := 3) (f := 1) dX3_way_1 rfl in_X3 (by decide) q468 (fun _ _ _ _ => ⟨_, rfl, rfl⟩) (s_iload_n F dX3_way_4 rfl (s_iald F dX3_way_5 (s_iconst F dX3_way_6 (by decide) (s_icmp_ne F dX3_way_7 (by decide) (s_aload_n F dX3_way_13 rfl (s_getR F (ci := 3) (f := 1) dX3_way_14 rfl in_X3 (by decide) q468 (fun _ _ _ _ => ⟨_, rfl, rfl⟩) (s_iload_n F dX3_way_17 rfl (s_iald F dX3_way_18 (s_bipush F dX3_way_19 (by decide) (s_icmp_lt F dX3_way_21 (by decide) (s_iconst F dX3_way_28 (by decide) (s_cut [0, 1, 2] (sBX3_way_29 F hr hlk))) (s_iconst F dX3_way_24 (by decide) (s_goto F dX3_way_25 (by decide) (s_cut [0, 1, 2] (sBX3_way_29 F hr hlk)))))))))) (s_bipush F dX3_way_10 (by decide) (s_iret F dX3_way_12 hr hlk))))))))
set_option maxRecDepth 100000 in
set_option maxHeartbeats 4000000 in
theorem ctX3_way (l : Launch) : CI l yX3_way (ws_ yX3_way cX3_way 3 (some .int)) rmX3_way SX3_way := by
  refine mk_CI (by decide) ?_
  intro p e s m args below meth c G cy dC dI F hr hlk as M post hS
  unfold SX3_way at hS
  split at hS
  · rename_i t i0 p0 b
    obtain ⟨rfl, rfl, hv, hS⟩ := hS
    refine ⟨by simp only [lk, wd, rm1, rm2, pick, popn, catS, pushO, aLV, cond_true, cond_false, Bool.not_true, Bool.not_false, Bool.and_true, Bool.and_false, Bool.true_and, Bool.false_and, eq_self, true_and, and_true, Nat.reduceBEq, Nat.reduceAdd, reduceIte, Nat.reduceEqDiff]; decide, sBX3_way_0 F hr hlk _ _ _ ?_⟩
    simp only [BX3_way_0, BX3_way_29, i_push, i_iload, i_aload, i_if, i_cmp, i_getR, i_iald, i_iret, i_cut, lk, wd, rm1, rm2, pick, popn, catS, pushO, aLV, cond_true, cond_false, Bool.not_true, Bool.not_false, Bool.and_true, Bool.and_false, Bool.true_and, Bool.false_and, eq_self, true_and, and_true, Nat.reduceBEq, Nat.reduceAdd, reduceIte, Nat.reduceEqDiff]
    try simp only [tCnt, aK, aN, aR, eq_self, true_and, and_true, Nat.reduceLeDiff, Nat.reduceEqDiff]
    (try simp only [b2i_0, Bool.not_eq_true, Bool.not_eq_false])
    (repeat' (first | with_reducible assumption | exact b2i_1 _ | apply And.intro | intro _)) <;> (first | with_reducible assumption | decide | (simpa [mWay, b2i, *] using hS) | (simp_all [mWay, b2i]; done))
  · exact hS.elim
def SX3_isNone : SP := fun as M post => match as with
  | [.inr (t, i0), .inl (.int p0)] => t = 8 ∧ i0 = 0 ∧ vp_in p0 24 ∧ post (some (.inl (.int (b2i (mNone M (cl p0) = true))))) M
  | _ => False
abbrev rmX3_isNone : Room := ({ frames := 0, cells := 0, slots := 0, locals := 0 } : Room)
def BX3_isNone_0 (Qr : Option AV → MM → Prop) (lv : LV) (st : List AV) (M : MM) : Prop := (i_aload 0 (i_getR 8 9 (fun _ => 0) (i_iload 1 (i_iald 0 (i_push (.inl (.int (-1))) (i_cmp (fun a b => a = b) (i_push (.inl (.int 1)) (i_zret Qr)) (i_aload 0 (i_getR 8 11 (fun _ => 0) (i_iload 1 (i_iald 1 (i_if (fun a => a = 0) (i_push (.inl (.int 0)) (i_zret Qr)) (i_push (.inl (.int 1)) (i_zret Qr))))))))))))) lv st M
set_option maxRecDepth 100000 in
set_option maxHeartbeats 4000000 in
theorem sBX3_isNone_0 {p : Program} {l : Launch} {e : Env} {s : State} {m : MethodId} {args : Array Value} {below : List Frame} {meth : Method} {c : Code} {G : Nat → Nat → Nat} {cy dC : Nat → ClassId} {dI : Nat → Nat → Nat} {Qr : Option AV → MM → Prop} (F : FX p m c cX3_isNone 2 RX3 s args (AW G) G cy dC dI) (hr : meth.sig.returnType = (some .boolean)) (hlk : meth.locks = false) : SO p l e rmX3_isNone s m args below meth c 0 0 (MQ below (QI G cy dC dI Qr) args s 0 0 (AW G)) 2 (AW G) G cy dC dI 0 (BX3_isNone_0 Qr) := by
  exact (s_aload_n F dX3_isNone_0 rfl (s_getR F (ci := 3) (f := 1) dX3_isNone_1 rfl in_X3 (by decide) q468 (fun _ _ _ _ => ⟨_, rfl, rfl⟩) (s_iload_n F dX3_isNone_4 rfl (s_iald F dX3_isNone_5 (s_iconst F dX3_isNone_6 (by decide) (s_icmp_eq F dX3_isNone_7 (by decide) (s_iconst F dX3_isNone_19 (by decide) (s_goto F dX3_isNone_20 (by decide) (s_zret F dX3_isNone_24 hr hlk))) (s_aload_n F dX3_isNone_10 rfl (s_getR F (ci := 3) (f := 3) dX3_isNone_11 rfl in_X3 (by decide) q470 (fun _ _ _ _ => ⟨_, rfl, rfl⟩) (s_iload_n F dX3_isNone_14 rfl (s_zald F dX3_isNone_15 (s_if_eq F dX3_isNone_16 (by decide) (s_iconst F dX3_isNone_23 (by decide) (s_zret F dX3_isNone_24 hr hlk)) (s_iconst F dX3_isNone_19 (by decide) (s_goto F dX3_isNone_20 (by decide) (s_zret F dX3_isNone_24 hr hlk))))))))))))))
set_option maxRecDepth 100000 in
set_option maxHeartbeats 4000000 in
theorem ctX3_isNone (l : Launch) : CI l yX3_isNone (ws_ yX3_isNone cX3_isNone 2 (some .boolean)) rmX3_isNone SX3_isNone := by
  refine mk_CI (by decide) ?_
  intro p e s m args below meth c G cy dC dI F hr hlk as M post hS
  unfold SX3_isNone at hS
  split at hS
  · rename_i t i0 p0
    obtain ⟨rfl, rfl, hv, hS⟩ := hS
    refine ⟨by simp only [lk, wd, rm1, rm2, pick, popn, catS, pushO, aLV, cond_true, cond_false, Bool.not_true, Bool.not_false, Bool.and_true, Bool.and_false, Bool.true_and, Bool.false_and, eq_self, true_and, and_true, Nat.reduceBEq, Nat.reduceAdd, reduceIte, Nat.reduceEqDiff]; decide, sBX3_isNone_0 F hr hlk _ _ _ ?_⟩
    simp only [BX3_isNone_0, i_push, i_iload, i_aload, i_if, i_cmp, i_getR, i_iald, i_zret, lk, wd, rm1, rm2, pick, popn, catS, pushO, aLV, cond_true, cond_false, Bool.not_true, Bool.not_false, Bool.and_true, Bool.and_false, Bool.true_and, Bool.false_and, eq_self, true_and, and_true, Nat.reduceBEq, Nat.reduceAdd, reduceIte, Nat.reduceEqDiff]
    try simp only [tCnt, aK, aN, aR, eq_self, true_and, and_true, Nat.reduceLeDiff, Nat.reduceEqDiff]
    (try simp only [b2i_0, Bool.not_eq_true, Bool.not_eq_false])
    (repeat' (first | with_reducible assumption | exact b2i_1 _ | apply And.intro | intro _)) <;> (first | with_reducible assumption | decide | (simpa [mNone, b2i, *] using hS) | (simp_all [mNone, b2i]; done))
  · exact hS.elim
def SX3_let : SP := fun as M post => match as with
  | [.inr (t, i0), .inl (.int p0)] => t = 8 ∧ i0 = 0 ∧ post (some (.inl (.int (m_let (z0 M) p0).1))) (m_let (z0 M) p0).2
  | _ => False
abbrev rmX3_let : Room := ({ frames := 2, cells := 0, slots := 0, locals := 120 } : Room)
def BX3_let_0 (Qr : Option AV → MM → Prop) (lv : LV) (st : List AV) (M : MM) : Prop := (i_aload 0 (i_push (.inl (.int 0)) (i_putI 8 0 (i_iload 1 (i_call 1 SX3_isPlace (i_if (fun a => a = 0) (i_push (.inl (.int (-1))) (i_iret Qr)) (i_aload 0 (i_iload 1 (i_callV 1 8 SX3_isNone (i_if (fun a => a = 0) (i_aload 0 (i_getR 8 10 (fun _ => 0) (i_iload 1 (i_iald 0 (i_istore 2 (i_aload 0 (i_getR 8 10 (fun _ => 0) (i_iload 1 (i_push (.inl (.int 0)) (i_iast (i_aload 0 (i_getR 8 11 (fun _ => 0) (i_iload 1 (i_push (.inl (.int 1)) (i_bast (i_iload 2 (i_iret Qr))))))))))))))))) (i_push (.inl (.int (-11))) (i_iret Qr)))))))))))) lv st M
set_option maxRecDepth 100000 in
set_option maxHeartbeats 4000000 in
theorem sBX3_let_0 {p : Program} {l : Launch} {e : Env} {s : State} {m : MethodId} {args : Array Value} {below : List Frame} {meth : Method} {c : Code} {G : Nat → Nat → Nat} {cy dC : Nat → ClassId} {dI : Nat → Nat → Nat} {Qr : Option AV → MM → Prop} (F : FX p m c cX3_let 3 RX3 s args (AW G) G cy dC dI) (hr : meth.sig.returnType = (some .int)) (hlk : meth.locks = false) : SO p l e rmX3_let s m args below meth c 0 0 (MQ below (QI G cy dC dI Qr) args s 0 0 (AW G)) 3 (AW G) G cy dC dI 0 (BX3_let_0 Qr) := by
  exact (s_aload_n F dX3_let_0 rfl (s_iconst F dX3_let_1 (by decide) (s_putI F (ci := 3) dX3_let_2 rfl in_X3 tyX3 tyX3_ok nmX3 (by decide) q467 rfl (by decide +kernel) (fun _ _ _ _ _ => ⟨_, rfl, Nat.le_of_ble_eq_true rfl, rfl⟩) (s_iload_n F dX3_let_5 rfl (s_callSi F dX3_let_6 (ctX3_isPlace l) (lw_S q529 q530 q4 q531) ⟨rfl, rfl⟩ (by decide +kernel) (by decide) ⟨Nat.zero_le _, Nat.zero_le _⟩ (s_if_ne F dX3_let_9 (by decide) (s_aload_n F dX3_let_14 rfl (s_iload_n F dX3_let_15 rfl (s_callVi F dX3_let_16 (ctX3_isNone l) (lw_V q540 q542 qs11 q4 q543) ⟨rfl, rfl⟩ (by decide +kernel) (by decide) ⟨Nat.zero_le _, Nat.zero_le _⟩ (ci := 3) rfl (fun _ _ _ _ => ⟨_, rfl⟩) (s_if_eq F dX3_let_19 (by decide) (s_aload_n F dX3_let_25 rfl (s_getR F (ci := 3) (f := 2) dX3_let_26 rfl in_X3 (by decide) q469 (fun _ _ _ _ => ⟨_, rfl, rfl⟩) (s_iload_n F dX3_let_29 rfl (s_iald F dX3_let_30 (s_istore_n F dX3_let_31 rfl (by decide) (s_aload_n F dX3_let_32 rfl (s_getR F (ci := 3) (f := 2) dX3_let_33 rfl in_X3 (by decide) q469 (fun _ _ _ _ => ⟨_, rfl, rfl⟩) (s_iload_n F dX3_let_36 rfl (s_iconst F dX3_let_37 (by decide) (s_iast F dX3_let_38 (s_aload_n F dX3_let_39 rfl (s_getR F (ci := 3) (f := 3) dX3_let_40 rfl in_X3 (by decide) q470 (fun _ _ _ _ => ⟨_, rfl, rfl⟩) (s_iload_n F dX3_let_43 rfl (s_iconst F dX3_let_44 (by decide) (s_bast F dX3_let_45 (s_iload_n F dX3_let_46 rfl (s_iret F dX3_let_47 hr hlk))))))))))))))))) (s_bipush F dX3_let_22 (by decide) (s_iret F dX3_let_24 hr hlk)))))) (s_iconst F dX3_let_12 (by decide) (s_iret F dX3_let_13 hr hlk))))))))
set_option maxRecDepth 100000 in
set_option maxHeartbeats 4000000 in
theorem ctX3_let (l : Launch) : CI l yX3_let (ws_ yX3_let cX3_let 3 (some .int)) rmX3_let SX3_let := by
  refine mk_CI (by decide) ?_
  intro p e s m args below meth c G cy dC dI F hr hlk as M post hS
  unfold SX3_let at hS
  split at hS
  · rename_i t i0 p0
    obtain ⟨rfl, rfl, hS⟩ := hS
    refine ⟨by simp only [lk, wd, rm1, rm2, pick, popn, catS, pushO, aLV, cond_true, cond_false, Bool.not_true, Bool.not_false, Bool.and_true, Bool.and_false, Bool.true_and, Bool.false_and, eq_self, true_and, and_true, Nat.reduceBEq, Nat.reduceAdd, reduceIte, Nat.reduceEqDiff]; decide, sBX3_let_0 F hr hlk _ _ _ ?_⟩
    simp only [BX3_let_0, i_push, i_iload, i_aload, i_istore, i_if, i_getR, i_putI, i_iald, i_iast, i_bast, i_call, i_callV, i_iret, lk, wd, rm1, rm2, pick, popn, catS, pushO, aLV, cond_true, cond_false, Bool.not_true, Bool.not_false, Bool.and_true, Bool.and_false, Bool.true_and, Bool.false_and, eq_self, true_and, and_true, Nat.reduceBEq, Nat.reduceAdd, reduceIte, Nat.reduceEqDiff, SX3_isNone, SX3_isPlace]
    try simp only [tCnt, aK, aN, aR, eq_self, true_and, and_true, Nat.reduceLeDiff, Nat.reduceEqDiff]
    (try simp only [b2i_0, Bool.not_eq_true, Bool.not_eq_false]); (try simp only [show sI M 8 0 0 0 = z0 M from rfl]); generalize hN : z0 M = N at hS ⊢
    (try simp only [nar0, nar1])
    have hP1 : isPl p0 = true → vp_in p0 24 := fun h => (isPl_in h).1
    (try simp only [b2i_0, Bool.not_eq_true, Bool.not_eq_false])
    (repeat' (first | with_reducible assumption | exact b2i_1 _ | exact hP1 (by with_reducible assumption) | apply And.intro | intro _)) <;> (first | with_reducible assumption | decide | (simpa [m_let, *] using hS) | (simp_all [m_let]; done))
  · exact hS.elim
def SX3_drop : SP := fun as M post => match as with
  | [.inr (t, i0), .inl (.int p0)] => t = 8 ∧ i0 = 0 ∧ post (some (.inl (.int (m_drop (z0 M) p0).1))) (m_drop (z0 M) p0).2
  | _ => False
abbrev rmX3_drop : Room := ({ frames := 2, cells := 0, slots := 0, locals := 120 } : Room)
def BX3_drop_29 (Qr : Option AV → MM → Prop) (lv : LV) (st : List AV) (M : MM) : Prop := (i_istore 2 (i_aload 0 (i_getR 8 9 (fun _ => 0) (i_iload 1 (i_push (.inl (.int (-1))) (i_iast (i_aload 0 (i_getR 8 10 (fun _ => 0) (i_iload 1 (i_push (.inl (.int 0)) (i_iast (i_aload 0 (i_getR 8 11 (fun _ => 0) (i_iload 1 (i_push (.inl (.int 0)) (i_bast (i_iload 2 (i_iret Qr)))))))))))))))))) lv st M
set_option maxRecDepth 100000 in
set_option maxHeartbeats 4000000 in
theorem sBX3_drop_29 {p : Program} {l : Launch} {e : Env} {s : State} {m : MethodId} {args : Array Value} {below : List Frame} {meth : Method} {c : Code} {G : Nat → Nat → Nat} {cy dC : Nat → ClassId} {dI : Nat → Nat → Nat} {Qr : Option AV → MM → Prop} (F : FX p m c cX3_drop 3 RX3 s args (AW G) G cy dC dI) (hr : meth.sig.returnType = (some .int)) (hlk : meth.locks = false) : SO p l e rmX3_drop s m args below meth c 0 0 (MQ below (QI G cy dC dI Qr) args s 0 0 (AW G)) 3 (AW G) G cy dC dI 29 (BX3_drop_29 Qr) := by
  exact (s_istore_n F dX3_drop_29 rfl (by decide) (s_aload_n F dX3_drop_30 rfl (s_getR F (ci := 3) (f := 1) dX3_drop_31 rfl in_X3 (by decide) q468 (fun _ _ _ _ => ⟨_, rfl, rfl⟩) (s_iload_n F dX3_drop_34 rfl (s_iconst F dX3_drop_35 (by decide) (s_iast F dX3_drop_36 (s_aload_n F dX3_drop_37 rfl (s_getR F (ci := 3) (f := 2) dX3_drop_38 rfl in_X3 (by decide) q469 (fun _ _ _ _ => ⟨_, rfl, rfl⟩) (s_iload_n F dX3_drop_41 rfl (s_iconst F dX3_drop_42 (by decide) (s_iast F dX3_drop_43 (s_aload_n F dX3_drop_44 rfl (s_getR F (ci := 3) (f := 3) dX3_drop_45 rfl in_X3 (by decide) q470 (fun _ _ _ _ => ⟨_, rfl, rfl⟩) (s_iload_n F dX3_drop_48 rfl (s_iconst F dX3_drop_49 (by decide) (s_bast F dX3_drop_50 (s_iload_n F dX3_drop_51 rfl (s_iret F dX3_drop_52 hr hlk))))))))))))))))))
def BX3_drop_0 (Qr : Option AV → MM → Prop) (lv : LV) (st : List AV) (M : MM) : Prop := (i_aload 0 (i_push (.inl (.int 0)) (i_putI 8 0 (i_iload 1 (i_call 1 SX3_isPlace (i_if (fun a => a = 0) (i_push (.inl (.int (-1))) (i_iret Qr)) (i_aload 0 (i_getR 8 9 (fun _ => 0) (i_iload 1 (i_iald 0 (i_push (.inl (.int (-1))) (i_cmp (fun a b => a = b) (i_push (.inl (.int 0)) (i_cut [0, 1] (BX3_drop_29 Qr))) (i_push (.inl (.int 1)) (i_cut [0, 1] (BX3_drop_29 Qr))))))))))))))) lv st M
set_option maxRecDepth 100000 in
set_option maxHeartbeats 4000000 in
theorem sBX3_drop_0 {p : Program} {l : Launch} {e : Env} {s : State} {m : MethodId} {args : Array Value} {below : List Frame} {meth : Method} {c : Code} {G : Nat → Nat → Nat} {cy dC : Nat → ClassId} {dI : Nat → Nat → Nat} {Qr : Option AV → MM → Prop} (F : FX p m c cX3_drop 3 RX3 s args (AW G) G cy dC dI) (hr : meth.sig.returnType = (some .int)) (hlk : meth.locks = false) : SO p l e rmX3_drop s m args below meth c 0 0 (MQ below (QI G cy dC dI Qr) args s 0 0 (AW G)) 3 (AW G) G cy dC dI 0 (BX3_drop_0 Qr) := by
  exact (s_aload_n F dX3_drop_0 rfl (s_iconst F dX3_drop_1 (by decide) (s_putI F (ci := 3) dX3_drop_2 rfl in_X3 tyX3 tyX3_ok nmX3 (by decide) q467 rfl (by decide +kernel) (fun _ _ _ _ _ => ⟨_, rfl, Nat.le_of_ble_eq_true rfl, rfl⟩) (s_iload_n F dX3_drop_5 rfl (s_callSi F dX3_drop_6 (ctX3_isPlace l) (lw_S q529 q530 q4 q531) ⟨rfl, rfl⟩ (by decide +kernel) (by decide) ⟨Nat.zero_le _, Nat.zero_le _⟩ (s_if_ne F dX3_drop_9 (by decide) (s_aload_n F dX3_drop_14 rfl (s_getR F (ci := 3) (f := 1) dX3_drop_15 rfl in_X3 (by decide) q468 (fun _ _ _ _ => ⟨_, rfl, rfl⟩) (s_iload_n F dX3_drop_18 rfl (s_iald F dX3_drop_19 (s_iconst F dX3_drop_20 (by decide) (s_icmp_ne F dX3_drop_21 (by decide) (s_iconst F dX3_drop_28 (by decide) (s_cut [0, 1] (sBX3_drop_29 F hr hlk))) (s_iconst F dX3_drop_24 (by decide) (s_goto F dX3_drop_25 (by decide) (s_cut [0, 1] (sBX3_drop_29 F hr hlk)))))))))) (s_iconst F dX3_drop_12 (by decide) (s_iret F dX3_drop_13 hr hlk))))))))
set_option maxRecDepth 100000 in
set_option maxHeartbeats 4000000 in
theorem ctX3_drop (l : Launch) : CI l yX3_drop (ws_ yX3_drop cX3_drop 3 (some .int)) rmX3_drop SX3_drop := by
  refine mk_CI (by decide) ?_
  intro p e s m args below meth c G cy dC dI F hr hlk as M post hS
  unfold SX3_drop at hS
  split at hS
  · rename_i t i0 p0
    obtain ⟨rfl, rfl, hS⟩ := hS
    refine ⟨by simp only [lk, wd, rm1, rm2, pick, popn, catS, pushO, aLV, cond_true, cond_false, Bool.not_true, Bool.not_false, Bool.and_true, Bool.and_false, Bool.true_and, Bool.false_and, eq_self, true_and, and_true, Nat.reduceBEq, Nat.reduceAdd, reduceIte, Nat.reduceEqDiff]; decide, sBX3_drop_0 F hr hlk _ _ _ ?_⟩
    simp only [BX3_drop_0, BX3_drop_29, i_push, i_iload, i_aload, i_istore, i_if, i_cmp, i_getR, i_putI, i_iald, i_iast, i_bast, i_call, i_iret, i_cut, lk, wd, rm1, rm2, pick, popn, catS, pushO, aLV, cond_true, cond_false, Bool.not_true, Bool.not_false, Bool.and_true, Bool.and_false, Bool.true_and, Bool.false_and, eq_self, true_and, and_true, Nat.reduceBEq, Nat.reduceAdd, reduceIte, Nat.reduceEqDiff, SX3_isPlace]
    try simp only [tCnt, aK, aN, aR, eq_self, true_and, and_true, Nat.reduceLeDiff, Nat.reduceEqDiff]
    (try simp only [b2i_0, Bool.not_eq_true, Bool.not_eq_false]); (try simp only [show sI M 8 0 0 0 = z0 M from rfl]); generalize hN : z0 M = N at hS ⊢
    (try simp only [nar0, nar1])
    have hP1 : isPl p0 = true → vp_in p0 24 := fun h => (isPl_in h).1
    (try simp only [b2i_0, Bool.not_eq_true, Bool.not_eq_false])
    (repeat' (first | with_reducible assumption | exact b2i_1 _ | exact hP1 (by with_reducible assumption) | apply And.intro | intro _)) <;> (first | with_reducible assumption | decide | (simpa [m_drop, *] using hS) | (simp_all [m_drop]; done))
  · exact hS.elim
def SX3_kind : SP := fun as M post => match as with
  | [.inr (t, i0), .inl (.int p0)] => t = 8 ∧ i0 = 0 ∧ post (some (.inl (.int (m_kind (z0 M) p0)))) (z0 M)
  | _ => False
abbrev rmX3_kind : Room := ({ frames := 2, cells := 0, slots := 0, locals := 120 } : Room)
def BX3_kind_0 (Qr : Option AV → MM → Prop) (lv : LV) (st : List AV) (M : MM) : Prop := (i_aload 0 (i_push (.inl (.int 0)) (i_putI 8 0 (i_iload 1 (i_call 1 SX3_isPlace (i_if (fun a => a = 0) (i_push (.inl (.int (-1))) (i_iret Qr)) (i_aload 0 (i_getR 8 9 (fun _ => 0) (i_iload 1 (i_iald 0 (i_push (.inl (.int (-1))) (i_cmp (fun a b => a = b) (i_push (.inl (.int (-11))) (i_iret Qr)) (i_aload 0 (i_getR 8 9 (fun _ => 0) (i_iload 1 (i_iald 0 (i_iret Qr))))))))))))))))) lv st M
set_option maxRecDepth 100000 in
set_option maxHeartbeats 4000000 in
theorem sBX3_kind_0 {p : Program} {l : Launch} {e : Env} {s : State} {m : MethodId} {args : Array Value} {below : List Frame} {meth : Method} {c : Code} {G : Nat → Nat → Nat} {cy dC : Nat → ClassId} {dI : Nat → Nat → Nat} {Qr : Option AV → MM → Prop} (F : FX p m c cX3_kind 2 RX3 s args (AW G) G cy dC dI) (hr : meth.sig.returnType = (some .int)) (hlk : meth.locks = false) : SO p l e rmX3_kind s m args below meth c 0 0 (MQ below (QI G cy dC dI Qr) args s 0 0 (AW G)) 2 (AW G) G cy dC dI 0 (BX3_kind_0 Qr) := by
  exact (s_aload_n F dX3_kind_0 rfl (s_iconst F dX3_kind_1 (by decide) (s_putI F (ci := 3) dX3_kind_2 rfl in_X3 tyX3 tyX3_ok nmX3 (by decide) q467 rfl (by decide +kernel) (fun _ _ _ _ _ => ⟨_, rfl, Nat.le_of_ble_eq_true rfl, rfl⟩) (s_iload_n F dX3_kind_5 rfl (s_callSi F dX3_kind_6 (ctX3_isPlace l) (lw_S q529 q530 q4 q531) ⟨rfl, rfl⟩ (by decide +kernel) (by decide) ⟨Nat.zero_le _, Nat.zero_le _⟩ (s_if_ne F dX3_kind_9 (by decide) (s_aload_n F dX3_kind_16 rfl (s_getR F (ci := 3) (f := 1) dX3_kind_17 rfl in_X3 (by decide) q468 (fun _ _ _ _ => ⟨_, rfl, rfl⟩) (s_iload_n F dX3_kind_20 rfl (s_iald F dX3_kind_21 (s_iconst F dX3_kind_22 (by decide) (s_icmp_ne F dX3_kind_23 (by decide) (s_aload_n F dX3_kind_31 rfl (s_getR F (ci := 3) (f := 1) dX3_kind_32 rfl in_X3 (by decide) q468 (fun _ _ _ _ => ⟨_, rfl, rfl⟩) (s_iload_n F dX3_kind_35 rfl (s_iald F dX3_kind_36 (s_iret F dX3_kind_37 hr hlk))))) (s_bipush F dX3_kind_26 (by decide) (s_goto F dX3_kind_28 (by decide) (s_iret F dX3_kind_37 hr hlk))))))))) (s_iconst F dX3_kind_12 (by decide) (s_goto F dX3_kind_13 (by decide) (s_iret F dX3_kind_37 hr hlk)))))))))
set_option maxRecDepth 100000 in
set_option maxHeartbeats 4000000 in
theorem ctX3_kind (l : Launch) : CI l yX3_kind (ws_ yX3_kind cX3_kind 2 (some .int)) rmX3_kind SX3_kind := by
  refine mk_CI (by decide) ?_
  intro p e s m args below meth c G cy dC dI F hr hlk as M post hS
  unfold SX3_kind at hS
  split at hS
  · rename_i t i0 p0
    obtain ⟨rfl, rfl, hS⟩ := hS
    refine ⟨by simp only [lk, wd, rm1, rm2, pick, popn, catS, pushO, aLV, cond_true, cond_false, Bool.not_true, Bool.not_false, Bool.and_true, Bool.and_false, Bool.true_and, Bool.false_and, eq_self, true_and, and_true, Nat.reduceBEq, Nat.reduceAdd, reduceIte, Nat.reduceEqDiff]; decide, sBX3_kind_0 F hr hlk _ _ _ ?_⟩
    simp only [BX3_kind_0, i_push, i_iload, i_aload, i_if, i_cmp, i_getR, i_putI, i_iald, i_call, i_iret, lk, wd, rm1, rm2, pick, popn, catS, pushO, aLV, cond_true, cond_false, Bool.not_true, Bool.not_false, Bool.and_true, Bool.and_false, Bool.true_and, Bool.false_and, eq_self, true_and, and_true, Nat.reduceBEq, Nat.reduceAdd, reduceIte, Nat.reduceEqDiff, SX3_isPlace]
    try simp only [tCnt, aK, aN, aR, eq_self, true_and, and_true, Nat.reduceLeDiff, Nat.reduceEqDiff]
    (try simp only [b2i_0, Bool.not_eq_true, Bool.not_eq_false]); (try simp only [show sI M 8 0 0 0 = z0 M from rfl]); generalize hN : z0 M = N at hS ⊢
    (try simp only [nar0, nar1])
    have hP1 : isPl p0 = true → vp_in p0 24 := fun h => (isPl_in h).1
    (try simp only [b2i_0, Bool.not_eq_true, Bool.not_eq_false])
    (repeat' (first | with_reducible assumption | exact b2i_1 _ | exact hP1 (by with_reducible assumption) | apply And.intro | intro _)) <;> (first | with_reducible assumption | decide | (simpa [m_kind, *] using hS) | (simp_all [m_kind]; done))
  · exact hS.elim
def SX3_length : SP := fun as M post => match as with
  | [.inr (t, i0), .inl (.int p0)] => t = 8 ∧ i0 = 0 ∧ post (some (.inl (.int (m_length (z0 M) p0)))) (z0 M)
  | _ => False
abbrev rmX3_length : Room := ({ frames := 2, cells := 0, slots := 0, locals := 120 } : Room)
def BX3_length_0 (Qr : Option AV → MM → Prop) (lv : LV) (st : List AV) (M : MM) : Prop := (i_aload 0 (i_push (.inl (.int 0)) (i_putI 8 0 (i_iload 1 (i_call 1 SX3_isPlace (i_if (fun a => a = 0) (i_push (.inl (.int (-1))) (i_iret Qr)) (i_aload 0 (i_iload 1 (i_callV 1 8 SX3_isNone (i_if (fun a => a = 0) (i_aload 0 (i_getR 8 10 (fun _ => 0) (i_iload 1 (i_iald 0 (i_iret Qr))))) (i_push (.inl (.int (-11))) (i_iret Qr)))))))))))) lv st M
set_option maxRecDepth 100000 in
set_option maxHeartbeats 4000000 in
theorem sBX3_length_0 {p : Program} {l : Launch} {e : Env} {s : State} {m : MethodId} {args : Array Value} {below : List Frame} {meth : Method} {c : Code} {G : Nat → Nat → Nat} {cy dC : Nat → ClassId} {dI : Nat → Nat → Nat} {Qr : Option AV → MM → Prop} (F : FX p m c cX3_length 2 RX3 s args (AW G) G cy dC dI) (hr : meth.sig.returnType = (some .int)) (hlk : meth.locks = false) : SO p l e rmX3_length s m args below meth c 0 0 (MQ below (QI G cy dC dI Qr) args s 0 0 (AW G)) 2 (AW G) G cy dC dI 0 (BX3_length_0 Qr) := by
  exact (s_aload_n F dX3_length_0 rfl (s_iconst F dX3_length_1 (by decide) (s_putI F (ci := 3) dX3_length_2 rfl in_X3 tyX3 tyX3_ok nmX3 (by decide) q467 rfl (by decide +kernel) (fun _ _ _ _ _ => ⟨_, rfl, Nat.le_of_ble_eq_true rfl, rfl⟩) (s_iload_n F dX3_length_5 rfl (s_callSi F dX3_length_6 (ctX3_isPlace l) (lw_S q529 q530 q4 q531) ⟨rfl, rfl⟩ (by decide +kernel) (by decide) ⟨Nat.zero_le _, Nat.zero_le _⟩ (s_if_ne F dX3_length_9 (by decide) (s_aload_n F dX3_length_16 rfl (s_iload_n F dX3_length_17 rfl (s_callVi F dX3_length_18 (ctX3_isNone l) (lw_V q540 q542 qs11 q4 q543) ⟨rfl, rfl⟩ (by decide +kernel) (by decide) ⟨Nat.zero_le _, Nat.zero_le _⟩ (ci := 3) rfl (fun _ _ _ _ => ⟨_, rfl⟩) (s_if_eq F dX3_length_21 (by decide) (s_aload_n F dX3_length_29 rfl (s_getR F (ci := 3) (f := 2) dX3_length_30 rfl in_X3 (by decide) q469 (fun _ _ _ _ => ⟨_, rfl, rfl⟩) (s_iload_n F dX3_length_33 rfl (s_iald F dX3_length_34 (s_iret F dX3_length_35 hr hlk))))) (s_bipush F dX3_length_24 (by decide) (s_goto F dX3_length_26 (by decide) (s_iret F dX3_length_35 hr hlk))))))) (s_iconst F dX3_length_12 (by decide) (s_goto F dX3_length_13 (by decide) (s_iret F dX3_length_35 hr hlk)))))))))
set_option maxRecDepth 100000 in
set_option maxHeartbeats 4000000 in
theorem ctX3_length (l : Launch) : CI l yX3_length (ws_ yX3_length cX3_length 2 (some .int)) rmX3_length SX3_length := by
  refine mk_CI (by decide) ?_
  intro p e s m args below meth c G cy dC dI F hr hlk as M post hS
  unfold SX3_length at hS
  split at hS
  · rename_i t i0 p0
    obtain ⟨rfl, rfl, hS⟩ := hS
    refine ⟨by simp only [lk, wd, rm1, rm2, pick, popn, catS, pushO, aLV, cond_true, cond_false, Bool.not_true, Bool.not_false, Bool.and_true, Bool.and_false, Bool.true_and, Bool.false_and, eq_self, true_and, and_true, Nat.reduceBEq, Nat.reduceAdd, reduceIte, Nat.reduceEqDiff]; decide, sBX3_length_0 F hr hlk _ _ _ ?_⟩
    simp only [BX3_length_0, i_push, i_iload, i_aload, i_if, i_getR, i_putI, i_iald, i_call, i_callV, i_iret, lk, wd, rm1, rm2, pick, popn, catS, pushO, aLV, cond_true, cond_false, Bool.not_true, Bool.not_false, Bool.and_true, Bool.and_false, Bool.true_and, Bool.false_and, eq_self, true_and, and_true, Nat.reduceBEq, Nat.reduceAdd, reduceIte, Nat.reduceEqDiff, SX3_isNone, SX3_isPlace]
    try simp only [tCnt, aK, aN, aR, eq_self, true_and, and_true, Nat.reduceLeDiff, Nat.reduceEqDiff]
    (try simp only [b2i_0, Bool.not_eq_true, Bool.not_eq_false]); (try simp only [show sI M 8 0 0 0 = z0 M from rfl]); generalize hN : z0 M = N at hS ⊢
    (try simp only [nar0, nar1])
    have hP1 : isPl p0 = true → vp_in p0 24 := fun h => (isPl_in h).1
    (try simp only [b2i_0, Bool.not_eq_true, Bool.not_eq_false])
    (repeat' (first | with_reducible assumption | exact b2i_1 _ | exact hP1 (by with_reducible assumption) | apply And.intro | intro _)) <;> (first | with_reducible assumption | decide | (simpa [m_length, *] using hS) | (simp_all [m_length]; done))
  · exact hS.elim
def SX3_low : SP := fun as M post => match as with
  | [.inl (.int k), .inl (.long v)] => post (some (.inl (.long (mLow k v)))) M
  | _ => False
abbrev rmX3_low : Room := ({ frames := 0, cells := 0, slots := 0, locals := 0 } : Room)
theorem tsw_X3_low_1 (x : Int32) : (¬ x.toInt < 0 ∧ ¬ 3 < x.toInt ∧ ∃ off, (#[31, 36, 41, 47] : Array Int)[(x.toInt - 0).toNat]? = some off ∧ ((1 : Nat) : Int) + off = (((if x = 0 then 32 else if x = 1 then 37 else if x = 2 then 42 else if x = 3 then 48 else 52) : Nat) : Int)) ∨ ((x.toInt < 0 ∨ 3 < x.toInt) ∧ (if x = 0 then 32 else if x = 1 then 37 else if x = 2 then 42 else if x = 3 then 48 else 52) = 52) := by
  by_cases e0 : x = 0
  · subst e0; exact Or.inl ⟨by decide, by decide, _, rfl, by decide⟩
  by_cases e1 : x = 1
  · subst e1; exact Or.inl ⟨by decide, by decide, _, rfl, by decide⟩
  by_cases e2 : x = 2
  · subst e2; exact Or.inl ⟨by decide, by decide, _, rfl, by decide⟩
  by_cases e3 : x = 3
  · subst e3; exact Or.inl ⟨by decide, by decide, _, rfl, by decide⟩
  right
  have n0 := lv_neT e0 (a := 0) (by decide)
  have n1 := lv_neT e1 (a := 1) (by decide)
  have n2 := lv_neT e2 (a := 2) (by decide)
  have n3 := lv_neT e3 (a := 3) (by decide)
  exact ⟨by omega, by simp only [if_neg e0, if_neg e1, if_neg e2, if_neg e3]⟩
def BX3_low_0 (Qr : Option AV → MM → Prop) (lv : LV) (st : List AV) (M : MM) : Prop := (i_iload 0 (i_sw [(0, (i_lload 1 (i_L (fun a => .inl (.int a.toInt32)) (i_I (fun a => .inl (.int a.toInt8.toInt32)) (i_I (fun a => .inl (.long a.toInt64)) (i_lret Qr)))))), (1, (i_lload 1 (i_L (fun a => .inl (.int a.toInt32)) (i_I (fun a => .inl (.int a.toInt16.toInt32)) (i_I (fun a => .inl (.long a.toInt64)) (i_lret Qr)))))), (2, (i_lload 1 (i_push (.inl (.long 65535)) (i_LL (fun a b => a &&& b) (i_lret Qr))))), (3, (i_lload 1 (i_L (fun a => .inl (.int a.toInt32)) (i_I (fun a => .inl (.long a.toInt64)) (i_lret Qr)))))] (i_lload 1 (i_lret Qr)))) lv st M
set_option maxRecDepth 100000 in
set_option maxHeartbeats 4000000 in
theorem sBX3_low_0 {p : Program} {l : Launch} {e : Env} {s : State} {m : MethodId} {args : Array Value} {below : List Frame} {meth : Method} {c : Code} {G : Nat → Nat → Nat} {cy dC : Nat → ClassId} {dI : Nat → Nat → Nat} {Qr : Option AV → MM → Prop} (F : FX p m c cX3_low 3 RX3 s args (AW G) G cy dC dI) (hr : meth.sig.returnType = (some .long)) (hlk : meth.locks = false) : SO p l e rmX3_low s m args below meth c 0 0 (MQ below (QL G cy dC dI Qr) args s 0 0 (AW G)) 3 (AW G) G cy dC dI 0 (BX3_low_0 Qr) := by
  exact (s_iload_n F dX3_low_0 rfl (s_tsw F [(0, (i_lload 1 (i_L (fun a => .inl (.int a.toInt32)) (i_I (fun a => .inl (.int a.toInt8.toInt32)) (i_I (fun a => .inl (.long a.toInt64)) (i_lret Qr)))))), (1, (i_lload 1 (i_L (fun a => .inl (.int a.toInt32)) (i_I (fun a => .inl (.int a.toInt16.toInt32)) (i_I (fun a => .inl (.long a.toInt64)) (i_lret Qr)))))), (2, (i_lload 1 (i_push (.inl (.long 65535)) (i_LL (fun a b => a &&& b) (i_lret Qr))))), (3, (i_lload 1 (i_L (fun a => .inl (.int a.toInt32)) (i_I (fun a => .inl (.long a.toInt64)) (i_lret Qr)))))] (fun x => if x = 0 then 32 else if x = 1 then 37 else if x = 2 then 42 else if x = 3 then 48 else 52) 52 dX3_low_1 (by decide) (tsw_X3_low_1) (List.forall_mem_cons.mpr ⟨(show SO _ _ _ _ _ _ _ _ _ _ _ _ _ _ _ _ _ _ _ 32 _ from (s_lload_n F dX3_low_32 rfl (s_l2i F dX3_low_33 (s_i2b F dX3_low_34 (s_i2l F dX3_low_35 (s_lret F dX3_low_36 hr hlk)))))), (List.forall_mem_cons.mpr ⟨(show SO _ _ _ _ _ _ _ _ _ _ _ _ _ _ _ _ _ _ _ 37 _ from (s_lload_n F dX3_low_37 rfl (s_l2i F dX3_low_38 (s_i2s F dX3_low_39 (s_i2l F dX3_low_40 (s_lret F dX3_low_41 hr hlk)))))), (List.forall_mem_cons.mpr ⟨(show SO _ _ _ _ _ _ _ _ _ _ _ _ _ _ _ _ _ _ _ 42 _ from (s_lload_n F dX3_low_42 rfl (s_ldc2 F dX3_low_43 q573 (s_land F dX3_low_46 (s_lret F dX3_low_47 hr hlk))))), (List.forall_mem_cons.mpr ⟨(show SO _ _ _ _ _ _ _ _ _ _ _ _ _ _ _ _ _ _ _ 48 _ from (s_lload_n F dX3_low_48 rfl (s_l2i F dX3_low_49 (s_i2l F dX3_low_50 (s_lret F dX3_low_51 hr hlk))))), fun _ hq => nomatch hq⟩)⟩)⟩)⟩) (fun x hx => by have hx2 := hx; simp only [List.forall_mem_cons] at hx2; obtain ⟨e0, e1, e2, e3, -⟩ := hx2; have hgo : (if x = 0 then 32 else if x = 1 then 37 else if x = 2 then 42 else if x = 3 then 48 else 52) = 52 := (by simp only [if_neg e0, if_neg e1, if_neg e2, if_neg e3]); show SO _ _ _ _ _ _ _ _ _ _ _ _ _ _ _ _ _ _ _ (if x = 0 then 32 else if x = 1 then 37 else if x = 2 then 42 else if x = 3 then 48 else 52) _; rw [hgo]; exact (s_lload_n F dX3_low_52 rfl (s_lret F dX3_low_53 hr hlk)))))
set_option maxRecDepth 100000 in
set_option maxHeartbeats 4000000 in
theorem ctX3_low (l : Launch) : CL l yX3_low (ws_ yX3_low cX3_low 3 (some .long)) rmX3_low SX3_low := by
  refine mk_CL (by decide) ?_
  intro p e s m args below meth c G cy dC dI F hr hlk as M post hS
  unfold SX3_low at hS
  split at hS
  · rename_i k v
    refine ⟨by simp only [lk, wd, rm1, rm2, pick, popn, catS, pushO, aLV, cond_true, cond_false, Bool.not_true, Bool.not_false, Bool.and_true, Bool.and_false, Bool.true_and, Bool.false_and, eq_self, true_and, and_true, Nat.reduceBEq, Nat.reduceAdd, reduceIte, Nat.reduceEqDiff]; decide, sBX3_low_0 F hr hlk _ _ _ ?_⟩
    simp only [BX3_low_0, i_push, i_iload, i_lload, i_LL, i_I, i_L, i_sw, i_lret, i_swc, lk, wd, rm1, rm2, pick, popn, catS, pushO, aLV, cond_true, cond_false, Bool.not_true, Bool.not_false, Bool.and_true, Bool.and_false, Bool.true_and, Bool.false_and, eq_self, true_and, and_true, Nat.reduceBEq, Nat.reduceAdd, reduceIte, Nat.reduceEqDiff]
    try simp only [tCnt, aK, aN, aR, eq_self, true_and, and_true, Nat.reduceLeDiff, Nat.reduceEqDiff]
    (repeat' (first | assumption | exact b2i_1 _ | apply And.intro | intro _)) <;> (first | assumption | decide | (simpa [mLow, *] using hS) | (simp_all [b2i, mLow]; done))
  · exact hS.elim
def SX3_isWhole : SP := fun as M post => match as with
  | [.inl (.int k)] => post (some (.inl (.int (b2i (k < 5))))) M
  | _ => False
abbrev rmX3_isWhole : Room := ({ frames := 0, cells := 0, slots := 0, locals := 0 } : Room)
def BX3_isWhole_0 (Qr : Option AV → MM → Prop) (lv : LV) (st : List AV) (M : MM) : Prop := (i_iload 0 (i_push (.inl (.int 5)) (i_cmp (fun a b => a < b) (i_push (.inl (.int 1)) (i_zret Qr)) (i_push (.inl (.int 0)) (i_zret Qr))))) lv st M
set_option maxRecDepth 100000 in
set_option maxHeartbeats 4000000 in
theorem sBX3_isWhole_0 {p : Program} {l : Launch} {e : Env} {s : State} {m : MethodId} {args : Array Value} {below : List Frame} {meth : Method} {c : Code} {G : Nat → Nat → Nat} {cy dC : Nat → ClassId} {dI : Nat → Nat → Nat} {Qr : Option AV → MM → Prop} (F : FX p m c cX3_isWhole 1 RX3 s args (AW G) G cy dC dI) (hr : meth.sig.returnType = (some .boolean)) (hlk : meth.locks = false) : SO p l e rmX3_isWhole s m args below meth c 0 0 (MQ below (QI G cy dC dI Qr) args s 0 0 (AW G)) 1 (AW G) G cy dC dI 0 (BX3_isWhole_0 Qr) := by
  exact (s_iload_n F dX3_isWhole_0 rfl (s_iconst F dX3_isWhole_1 (by decide) (s_icmp_ge F dX3_isWhole_2 (by decide) (s_iconst F dX3_isWhole_9 (by decide) (s_zret F dX3_isWhole_10 hr hlk)) (s_iconst F dX3_isWhole_5 (by decide) (s_goto F dX3_isWhole_6 (by decide) (s_zret F dX3_isWhole_10 hr hlk))))))
set_option maxRecDepth 100000 in
set_option maxHeartbeats 4000000 in
theorem ctX3_isWhole (l : Launch) : CI l yX3_isWhole (ws_ yX3_isWhole cX3_isWhole 1 (some .boolean)) rmX3_isWhole SX3_isWhole := by
  refine mk_CI (by decide) ?_
  intro p e s m args below meth c G cy dC dI F hr hlk as M post hS
  unfold SX3_isWhole at hS
  split at hS
  · refine ⟨by simp only [lk, wd, rm1, rm2, pick, popn, catS, pushO, aLV, cond_true, cond_false, Bool.not_true, Bool.not_false, Bool.and_true, Bool.and_false, Bool.true_and, Bool.false_and, eq_self, true_and, and_true, Nat.reduceBEq, Nat.reduceAdd, reduceIte, Nat.reduceEqDiff]; decide, sBX3_isWhole_0 F hr hlk _ _ _ ?_⟩
    simp only [BX3_isWhole_0, i_push, i_iload, i_cmp, i_zret, lk, wd, rm1, rm2, pick, popn, catS, pushO, aLV, cond_true, cond_false, Bool.not_true, Bool.not_false, Bool.and_true, Bool.and_false, Bool.true_and, Bool.false_and, eq_self, true_and, and_true, Nat.reduceBEq, Nat.reduceAdd, reduceIte, Nat.reduceEqDiff]
    try simp only [tCnt, aK, aN, aR, eq_self, true_and, and_true, Nat.reduceLeDiff, Nat.reduceEqDiff]
    (repeat' (first | assumption | exact b2i_1 _ | apply And.intro | intro _)) <;> (first | assumption | decide | (simpa [b2i, *] using hS) | (simp_all [b2i, b2i]; done))
  · exact hS.elim
def SX3_fits : SP := fun as M post => match as with
  | [.inl (.int k), .inl (.long v)] => post (some (.inl (.int (b2i (mFits k v = true))))) M
  | _ => False
abbrev rmX3_fits : Room := ({ frames := 1, cells := 0, slots := 0, locals := 60 } : Room)
def BX3_fits_0 (Qr : Option AV → MM → Prop) (lv : LV) (st : List AV) (M : MM) : Prop := (i_iload 0 (i_lload 1 (i_call 2 SX3_low (i_lload 1 (i_lcmp (i_if (fun a => a = 0) (i_push (.inl (.int 1)) (i_zret Qr)) (i_push (.inl (.int 0)) (i_zret Qr)))))))) lv st M
set_option maxRecDepth 100000 in
set_option maxHeartbeats 4000000 in
theorem sBX3_fits_0 {p : Program} {l : Launch} {e : Env} {s : State} {m : MethodId} {args : Array Value} {below : List Frame} {meth : Method} {c : Code} {G : Nat → Nat → Nat} {cy dC : Nat → ClassId} {dI : Nat → Nat → Nat} {Qr : Option AV → MM → Prop} (F : FX p m c cX3_fits 3 RX3 s args (AW G) G cy dC dI) (hr : meth.sig.returnType = (some .boolean)) (hlk : meth.locks = false) : SO p l e rmX3_fits s m args below meth c 0 0 (MQ below (QI G cy dC dI Qr) args s 0 0 (AW G)) 3 (AW G) G cy dC dI 0 (BX3_fits_0 Qr) := by
  exact (s_iload_n F dX3_fits_0 rfl (s_lload_n F dX3_fits_1 rfl (s_callSl F dX3_fits_2 (ctX3_low l) (lw_S q570 q571 q4 q572) ⟨rfl, rfl⟩ (by decide +kernel) (by decide) ⟨Nat.zero_le _, Nat.zero_le _⟩ (s_lload_n F dX3_fits_5 rfl (s_lcmp F dX3_fits_6 (s_if_ne F dX3_fits_7 (by decide) (s_iconst F dX3_fits_14 (by decide) (s_zret F dX3_fits_15 hr hlk)) (s_iconst F dX3_fits_10 (by decide) (s_goto F dX3_fits_11 (by decide) (s_zret F dX3_fits_15 hr hlk)))))))))
set_option maxRecDepth 100000 in
set_option maxHeartbeats 4000000 in
theorem ctX3_fits (l : Launch) : CI l yX3_fits (ws_ yX3_fits cX3_fits 3 (some .boolean)) rmX3_fits SX3_fits := by
  refine mk_CI (by decide) ?_
  intro p e s m args below meth c G cy dC dI F hr hlk as M post hS
  unfold SX3_fits at hS
  split at hS
  · rename_i k v
    refine ⟨by simp only [lk, wd, rm1, rm2, pick, popn, catS, pushO, aLV, cond_true, cond_false, Bool.not_true, Bool.not_false, Bool.and_true, Bool.and_false, Bool.true_and, Bool.false_and, eq_self, true_and, and_true, Nat.reduceBEq, Nat.reduceAdd, reduceIte, Nat.reduceEqDiff]; decide, sBX3_fits_0 F hr hlk _ _ _ ?_⟩
    simp only [BX3_fits_0, i_push, i_iload, i_lload, i_lcmp, i_if, i_call, i_zret, lk, wd, rm1, rm2, pick, popn, catS, pushO, aLV, cond_true, cond_false, Bool.not_true, Bool.not_false, Bool.and_true, Bool.and_false, Bool.true_and, Bool.false_and, eq_self, true_and, and_true, Nat.reduceBEq, Nat.reduceAdd, reduceIte, Nat.reduceEqDiff, SX3_low]
    try simp only [tCnt, aK, aN, aR, eq_self, true_and, and_true, Nat.reduceLeDiff, Nat.reduceEqDiff]
    (repeat' (first | assumption | exact b2i_1 _ | apply And.intro | intro _)) <;> (first | assumption | decide | (simpa [mFits, b2i, *] using hS) | (simp_all [b2i, mFits, b2i]; done))
  · exact hS.elim
def SX3_isInLongs : SP := fun as M post => match as with
  | [.inl (.double d)] => post (some (.inl (.int (b2i (mInL d = true))))) M
  | _ => False
abbrev rmX3_isInLongs : Room := ({ frames := 0, cells := 0, slots := 0, locals := 0 } : Room)
def BX3_isInLongs_0 (Qr : Option AV → MM → Prop) (lv : LV) (st : List AV) (M : MM) : Prop := (i_dload 0 (i_push (.inl (.double 14114281232179134464)) (i_dcmp .l (i_if (fun a => a < 0) (i_push (.inl (.int 0)) (i_zret Qr)) (i_dload 0 (i_push (.inl (.double 4890909195324358656)) (i_dcmp .g (i_if (fun a => a < 0) (i_push (.inl (.int 1)) (i_zret Qr)) (i_push (.inl (.int 0)) (i_zret Qr)))))))))) lv st M
set_option maxRecDepth 100000 in
set_option maxHeartbeats 4000000 in
theorem sBX3_isInLongs_0 {p : Program} {l : Launch} {e : Env} {s : State} {m : MethodId} {args : Array Value} {below : List Frame} {meth : Method} {c : Code} {G : Nat → Nat → Nat} {cy dC : Nat → ClassId} {dI : Nat → Nat → Nat} {Qr : Option AV → MM → Prop} (F : FX p m c cX3_isInLongs 2 RX3 s args (AW G) G cy dC dI) (hr : meth.sig.returnType = (some .boolean)) (hlk : meth.locks = false) : SO p l e rmX3_isInLongs s m args below meth c 0 0 (MQ below (QI G cy dC dI Qr) args s 0 0 (AW G)) 2 (AW G) G cy dC dI 0 (BX3_isInLongs_0 Qr) := by
  exact (s_dload_n F dX3_isInLongs_0 rfl (s_ldc2d F dX3_isInLongs_1 q603 (s_dcmp F dX3_isInLongs_4 (s_if_lt F dX3_isInLongs_5 (by decide) (s_iconst F dX3_isInLongs_20 (by decide) (s_zret F dX3_isInLongs_21 hr hlk)) (s_dload_n F dX3_isInLongs_8 rfl (s_ldc2d F dX3_isInLongs_9 q604 (s_dcmp F dX3_isInLongs_12 (s_if_ge F dX3_isInLongs_13 (by decide) (s_iconst F dX3_isInLongs_20 (by decide) (s_zret F dX3_isInLongs_21 hr hlk)) (s_iconst F dX3_isInLongs_16 (by decide) (s_goto F dX3_isInLongs_17 (by decide) (s_zret F dX3_isInLongs_21 hr hlk)))))))))))
set_option maxRecDepth 100000 in
set_option maxHeartbeats 4000000 in
theorem ctX3_isInLongs (l : Launch) : CI l yX3_isInLongs (ws_ yX3_isInLongs cX3_isInLongs 2 (some .boolean)) rmX3_isInLongs SX3_isInLongs := by
  refine mk_CI (by decide) ?_
  intro p e s m args below meth c G cy dC dI F hr hlk as M post hS
  unfold SX3_isInLongs at hS
  split at hS
  · rename_i d
    refine ⟨by simp only [lk, wd, rm1, rm2, pick, popn, catS, pushO, aLV, cond_true, cond_false, Bool.not_true, Bool.not_false, Bool.and_true, Bool.and_false, Bool.true_and, Bool.false_and, eq_self, true_and, and_true, Nat.reduceBEq, Nat.reduceAdd, reduceIte, Nat.reduceEqDiff]; decide, sBX3_isInLongs_0 F hr hlk _ _ _ ?_⟩
    simp only [BX3_isInLongs_0, i_push, i_dload, i_dcmp, i_if, i_zret, lk, wd, rm1, rm2, pick, popn, catS, pushO, aLV, cond_true, cond_false, Bool.not_true, Bool.not_false, Bool.and_true, Bool.and_false, Bool.true_and, Bool.false_and, eq_self, true_and, and_true, Nat.reduceBEq, Nat.reduceAdd, reduceIte, Nat.reduceEqDiff]
    try simp only [tCnt, aK, aN, aR, eq_self, true_and, and_true, Nat.reduceLeDiff, Nat.reduceEqDiff]
    (repeat' (first | assumption | exact b2i_1 _ | apply And.intro | intro _)) <;> (first | assumption | decide | (simpa [mInL, b2i, *] using hS) | (simp_all [b2i, mInL, b2i]; done))
  · exact hS.elim
def SX3_thrown : SP := fun as M post => match as with
  | [.inr (t, i0)] => t = 8 ∧ i0 = 0 ∧ post (some (.inl (.int (M.1 8 0 0)))) M
  | _ => False
abbrev rmX3_thrown : Room := ({ frames := 0, cells := 0, slots := 0, locals := 0 } : Room)
def BX3_thrown_0 (Qr : Option AV → MM → Prop) (lv : LV) (st : List AV) (M : MM) : Prop := (i_aload 0 (i_getI 8 0 (i_iret Qr))) lv st M
set_option maxRecDepth 100000 in
set_option maxHeartbeats 4000000 in
theorem sBX3_thrown_0 {p : Program} {l : Launch} {e : Env} {s : State} {m : MethodId} {args : Array Value} {below : List Frame} {meth : Method} {c : Code} {G : Nat → Nat → Nat} {cy dC : Nat → ClassId} {dI : Nat → Nat → Nat} {Qr : Option AV → MM → Prop} (F : FX p m c cX3_thrown 1 RX3 s args (AW G) G cy dC dI) (hr : meth.sig.returnType = (some .int)) (hlk : meth.locks = false) : SO p l e rmX3_thrown s m args below meth c 0 0 (MQ below (QI G cy dC dI Qr) args s 0 0 (AW G)) 1 (AW G) G cy dC dI 0 (BX3_thrown_0 Qr) := by
  exact (s_aload_n F dX3_thrown_0 rfl (s_getI F (ci := 3) dX3_thrown_1 rfl in_X3 (by decide) q467 (fun _ _ _ _ => ⟨_, rfl, rfl⟩) (s_iret F dX3_thrown_4 hr hlk)))
set_option maxRecDepth 100000 in
set_option maxHeartbeats 4000000 in
theorem ctX3_thrown (l : Launch) : CI l yX3_thrown (ws_ yX3_thrown cX3_thrown 1 (some .int)) rmX3_thrown SX3_thrown := by
  refine mk_CI (by decide) ?_
  intro p e s m args below meth c G cy dC dI F hr hlk as M post hS
  unfold SX3_thrown at hS
  split at hS
  · rename_i t i0
    obtain ⟨rfl, rfl, hS⟩ := hS
    refine ⟨by simp only [lk, wd, rm1, rm2, pick, popn, catS, pushO, aLV, cond_true, cond_false, Bool.not_true, Bool.not_false, Bool.and_true, Bool.and_false, Bool.true_and, Bool.false_and, eq_self, true_and, and_true, Nat.reduceBEq, Nat.reduceAdd, reduceIte, Nat.reduceEqDiff]; decide, sBX3_thrown_0 F hr hlk _ _ _ ?_⟩
    simp only [BX3_thrown_0, i_aload, i_getI, i_iret, lk, wd, rm1, rm2, pick, popn, catS, pushO, aLV, cond_true, cond_false, Bool.not_true, Bool.not_false, Bool.and_true, Bool.and_false, Bool.true_and, Bool.false_and, eq_self, true_and, and_true, Nat.reduceBEq, Nat.reduceAdd, reduceIte, Nat.reduceEqDiff]
    try simp only [tCnt, aK, aN, aR, eq_self, true_and, and_true, Nat.reduceLeDiff, Nat.reduceEqDiff]
    (repeat' (first | assumption | exact b2i_1 _ | apply And.intro | intro _)) <;> (first | assumption | decide | (simp_all [b2i]; done))
  · exact hS.elim
def SX3_copied : SP := fun as M post => match as with
  | [.inr (t, i0)] => t = 8 ∧ i0 = 0 ∧ post (some (.inl (.int (M.1 8 0 16)))) (z0 M)
  | _ => False
abbrev rmX3_copied : Room := ({ frames := 0, cells := 0, slots := 0, locals := 0 } : Room)
def BX3_copied_0 (Qr : Option AV → MM → Prop) (lv : LV) (st : List AV) (M : MM) : Prop := (i_aload 0 (i_push (.inl (.int 0)) (i_putI 8 0 (i_aload 0 (i_getI 8 16 (i_iret Qr)))))) lv st M
set_option maxRecDepth 100000 in
set_option maxHeartbeats 4000000 in
theorem sBX3_copied_0 {p : Program} {l : Launch} {e : Env} {s : State} {m : MethodId} {args : Array Value} {below : List Frame} {meth : Method} {c : Code} {G : Nat → Nat → Nat} {cy dC : Nat → ClassId} {dI : Nat → Nat → Nat} {Qr : Option AV → MM → Prop} (F : FX p m c cX3_copied 1 RX3 s args (AW G) G cy dC dI) (hr : meth.sig.returnType = (some .int)) (hlk : meth.locks = false) : SO p l e rmX3_copied s m args below meth c 0 0 (MQ below (QI G cy dC dI Qr) args s 0 0 (AW G)) 1 (AW G) G cy dC dI 0 (BX3_copied_0 Qr) := by
  exact (s_aload_n F dX3_copied_0 rfl (s_iconst F dX3_copied_1 (by decide) (s_putI F (ci := 3) dX3_copied_2 rfl in_X3 tyX3 tyX3_ok nmX3 (by decide) q467 rfl (by decide +kernel) (fun _ _ _ _ _ => ⟨_, rfl, Nat.le_of_ble_eq_true rfl, rfl⟩) (s_aload_n F dX3_copied_5 rfl (s_getI F (ci := 3) dX3_copied_6 rfl in_X3 (by decide) q483 (fun _ _ _ _ => ⟨_, rfl, rfl⟩) (s_iret F dX3_copied_9 hr hlk))))))
set_option maxRecDepth 100000 in
set_option maxHeartbeats 4000000 in
theorem ctX3_copied (l : Launch) : CI l yX3_copied (ws_ yX3_copied cX3_copied 1 (some .int)) rmX3_copied SX3_copied := by
  refine mk_CI (by decide) ?_
  intro p e s m args below meth c G cy dC dI F hr hlk as M post hS
  unfold SX3_copied at hS
  split at hS
  · rename_i t i0
    obtain ⟨rfl, rfl, hS⟩ := hS
    refine ⟨by simp only [lk, wd, rm1, rm2, pick, popn, catS, pushO, aLV, cond_true, cond_false, Bool.not_true, Bool.not_false, Bool.and_true, Bool.and_false, Bool.true_and, Bool.false_and, eq_self, true_and, and_true, Nat.reduceBEq, Nat.reduceAdd, reduceIte, Nat.reduceEqDiff]; decide, sBX3_copied_0 F hr hlk _ _ _ ?_⟩
    simp only [BX3_copied_0, i_push, i_aload, i_getI, i_putI, i_iret, lk, wd, rm1, rm2, pick, popn, catS, pushO, aLV, cond_true, cond_false, Bool.not_true, Bool.not_false, Bool.and_true, Bool.and_false, Bool.true_and, Bool.false_and, eq_self, true_and, and_true, Nat.reduceBEq, Nat.reduceAdd, reduceIte, Nat.reduceEqDiff]
    try simp only [tCnt, aK, aN, aR, eq_self, true_and, and_true, Nat.reduceLeDiff, Nat.reduceEqDiff]
    (repeat' (first | assumption | exact b2i_1 _ | apply And.intro | intro _)) <;> (first | assumption | decide | (simpa [z0, sI, *] using hS) | (simp_all [b2i, z0, sI]; done))
  · exact hS.elim
