def x_cols (M : MM) : Int32 := bx_sum (fun p => if M.1 4 p 0 = -1 then 0 else 1) 24
def x_cells (M : MM) : Int32 := bx_sum (fun p => if M.1 4 p 1 = -1 then 0 else M.1 4 p 1) 24
def x_held (M : MM) : Int32 := bx_sum (fun p => if M.1 4 p 0 < 7 then 0 else bx_sum (xH M p) (cnt M p)) 24
def x_told (M : MM) (w : Int32) : Int32 := if w = 0 then x_cols M else if w = 1 then x_cells M else if w = 2 then M.1 0 0 3 else if w = 3 then x_held M else -1
def x_mbd (M : MM) (p : Nat) (d : Int32) : MM := if ¬ d < 0 ∧ d < 6 then c_like M p (24 + cl d) else if d = 6 then sI (sI M 4 p 0 (-1)) 4 p 1 (-1) else M
theorem d6_in {d : Int32} (h0 : ¬ d < 0) (h : d < 6) : vp_in d 6 ∧ 24 + cl d < 30 := by
  have h2 := Int32.lt_iff_toInt_lt.mp h
  have h3 := vp_of (n := 6) h0 (by simpa using h2)
  exact ⟨h3.1, by have := h3.2; unfold cl; omega⟩

def SX2_countColumns : SP := fun as M post => match as with
  | [.inr (t, i0)] => t = 0 ∧ i0 = 0 ∧ post (some (.inl (.int (x_cols M)))) M
  | _ => False
abbrev rmX2_countColumns : Room := ({ frames := 1, cells := 0, slots := 0, locals := 60 } : Room)
def BX2_countColumns_28 (Qr : Option AV → MM → Prop) (K4 : PT) (lv : LV) (st : List AV) (M : MM) : Prop := (i_II (fun a b => a + b) (i_istore 1 (i_iinc 2 1 (i_cut [0, 1, 2] K4)))) lv st M
set_option maxRecDepth 100000 in
set_option maxHeartbeats 4000000 in
theorem sBX2_countColumns_28 {p : Program} {l : Launch} {e : Env} {s : State} {m : MethodId} {args : Array Value} {below : List Frame} {meth : Method} {c : Code} {G : Nat → Nat → Nat} {cy dC : Nat → ClassId} {dI : Nat → Nat → Nat} {Qr : Option AV → MM → Prop} {K4 : PT} (F : FX p m c cX2_countColumns 3 RX2 s args (AW G) G cy dC dI) (hr : meth.sig.returnType = (some .int)) (hlk : meth.locks = false) (h4 : SO p l e rmX2_countColumns s m args below meth c 0 0 (MQ below (QI G cy dC dI Qr) args s 0 0 (AW G)) 3 (AW G) G cy dC dI 4 K4) : SO p l e rmX2_countColumns s m args below meth c 0 0 (MQ below (QI G cy dC dI Qr) args s 0 0 (AW G)) 3 (AW G) G cy dC dI 28 (BX2_countColumns_28 Qr K4) := by
  exact (s_iadd F dX2_countColumns_28 (s_istore_n F dX2_countColumns_29 rfl (by decide) (s_iinc F dX2_countColumns_30 (by decide) (by decide) (s_goto F dX2_countColumns_33 (by decide) (s_cut [0, 1, 2] h4)))))
def BX2_countColumns_4 (Qr : Option AV → MM → Prop) (K4 : PT) (lv : LV) (st : List AV) (M : MM) : Prop := (i_iload 2 (i_push (.inl (.int 24)) (i_cmp (fun a b => a < b) (i_iload 1 (i_aload 0 (i_getR 0 1 (fun _ => 0) (i_iload 2 (i_aald (i_callV 0 4 SX0_isNone (i_if (fun a => a = 0) (i_push (.inl (.int 1)) (i_cut [0, 2] (BX2_countColumns_28 Qr K4))) (i_push (.inl (.int 0)) (i_cut [0, 2] (BX2_countColumns_28 Qr K4)))))))))) (i_iload 1 (i_iret Qr))))) lv st M
set_option maxRecDepth 100000 in
set_option maxHeartbeats 4000000 in
theorem sBX2_countColumns_4 {p : Program} {l : Launch} {e : Env} {s : State} {m : MethodId} {args : Array Value} {below : List Frame} {meth : Method} {c : Code} {G : Nat → Nat → Nat} {cy dC : Nat → ClassId} {dI : Nat → Nat → Nat} {Qr : Option AV → MM → Prop} {K4 : PT} (F : FX p m c cX2_countColumns 3 RX2 s args (AW G) G cy dC dI) (hr : meth.sig.returnType = (some .int)) (hlk : meth.locks = false) (h4 : SO p l e rmX2_countColumns s m args below meth c 0 0 (MQ below (QI G cy dC dI Qr) args s 0 0 (AW G)) 3 (AW G) G cy dC dI 4 K4) : SO p l e rmX2_countColumns s m args below meth c 0 0 (MQ below (QI G cy dC dI Qr) args s 0 0 (AW G)) 3 (AW G) G cy dC dI 4 (BX2_countColumns_4 Qr K4) := by
  exact (s_iload_n F dX2_countColumns_4 rfl (s_bipush F dX2_countColumns_5 (by decide) (s_icmp_ge F dX2_countColumns_7 (by decide) (s_iload_n F dX2_countColumns_36 rfl (s_iret F dX2_countColumns_37 hr hlk)) (s_iload_n F dX2_countColumns_10 rfl (s_aload_n F dX2_countColumns_11 rfl (s_getR F (ci := 2) (f := 0) dX2_countColumns_12 rfl in_X2 (by decide) q69 (fun _ _ _ _ => ⟨_, rfl, rfl⟩) (s_iload_n F dX2_countColumns_15 rfl (s_aald F dX2_countColumns_16 (s_callVi F dX2_countColumns_17 (ctX0_isNone l) (lw_V q123 q124 q125 q2 q126) ⟨rfl, rfl⟩ (by decide +kernel) (by decide) ⟨Nat.zero_le _, Nat.zero_le _⟩ (ci := 0) rfl (fun _ _ _ _ => ⟨_, rfl⟩) (s_if_eq F dX2_countColumns_20 (by decide) (s_iconst F dX2_countColumns_27 (by decide) (s_cut [0, 2] (sBX2_countColumns_28 F hr hlk h4))) (s_iconst F dX2_countColumns_23 (by decide) (s_goto F dX2_countColumns_24 (by decide) (s_cut [0, 2] (sBX2_countColumns_28 F hr hlk h4))))))))))))))
def BX2_countColumns_0 (Qr : Option AV → MM → Prop) (K4 : PT) (lv : LV) (st : List AV) (M : MM) : Prop := (i_push (.inl (.int 0)) (i_istore 1 (i_push (.inl (.int 0)) (i_istore 2 (i_cut [0, 1, 2] K4))))) lv st M
set_option maxRecDepth 100000 in
set_option maxHeartbeats 4000000 in
theorem sBX2_countColumns_0 {p : Program} {l : Launch} {e : Env} {s : State} {m : MethodId} {args : Array Value} {below : List Frame} {meth : Method} {c : Code} {G : Nat → Nat → Nat} {cy dC : Nat → ClassId} {dI : Nat → Nat → Nat} {Qr : Option AV → MM → Prop} {K4 : PT} (F : FX p m c cX2_countColumns 3 RX2 s args (AW G) G cy dC dI) (hr : meth.sig.returnType = (some .int)) (hlk : meth.locks = false) (h4 : SO p l e rmX2_countColumns s m args below meth c 0 0 (MQ below (QI G cy dC dI Qr) args s 0 0 (AW G)) 3 (AW G) G cy dC dI 4 K4) : SO p l e rmX2_countColumns s m args below meth c 0 0 (MQ below (QI G cy dC dI Qr) args s 0 0 (AW G)) 3 (AW G) G cy dC dI 0 (BX2_countColumns_0 Qr K4) := by
  exact (s_iconst F dX2_countColumns_0 (by decide) (s_istore_n F dX2_countColumns_1 rfl (by decide) (s_iconst F dX2_countColumns_2 (by decide) (s_istore_n F dX2_countColumns_3 rfl (by decide) (s_cut [0, 1, 2] h4)))))
set_option maxRecDepth 100000 in
set_option maxHeartbeats 4000000 in
theorem ctX2_countColumns (l : Launch) : CI l yX2_countColumns (ws_ yX2_countColumns cX2_countColumns 3 (some .int)) rmX2_countColumns SX2_countColumns := by
  refine mk_CI (by decide) ?_
  intro p e s m args below meth c G cy dC dI F hr hlk as M post hS
  unfold SX2_countColumns at hS
  split at hS
  · rename_i t i0
    obtain ⟨rfl, rfl, hS⟩ := hS
    unfold x_cols at hS
    have hL : ∀ n, SO p l e rmX2_countColumns s m args below meth c 0 0 (MQ below (QI G cy dC dI post) args s 0 0 (AW G)) 3 (AW G) G cy dC dI 4 ((fun (n : Nat) (lv : LV) (st : List AV) (M' : MM) => ∃ i : Nat, i ≤ 24 ∧ n = 24 - i ∧ lv = [(0, .inr (0, 0)), (1, .inl (.int (bx_sum (fun p => if M.1 4 p 0 = -1 then 0 else 1) i))), (2, .inl (.int (nI i)))] ∧ st = [] ∧ M' = M) n) := by
      refine SO_loop (fun K => BX2_countColumns_4 post K) (fun K hK => sBX2_countColumns_4 F hr hlk hK) (fun (n : Nat) (lv : LV) (st : List AV) (M' : MM) => ∃ i : Nat, i ≤ 24 ∧ n = 24 - i ∧ lv = [(0, .inr (0, 0)), (1, .inl (.int (bx_sum (fun p => if M.1 4 p 0 = -1 then 0 else 1) i))), (2, .inl (.int (nI i)))] ∧ st = [] ∧ M' = M) ?_
      intro n lv st M' ⟨i, hi, hn, e1, e2, e3⟩
      subst e1; subst e2; subst e3
      simp only [BX2_countColumns_0, BX2_countColumns_4, BX2_countColumns_28, i_push, i_iload, i_aload, i_istore, i_iinc, i_II, i_if, i_cmp, i_getR, i_aald, i_callV, i_iret, i_cut, lk, wd, rm1, rm2, pick, popn, catS, pushO, aLV, cond_true, cond_false, Bool.not_true, Bool.not_false, Bool.and_true, Bool.and_false, Bool.true_and, Bool.false_and, eq_self, true_and, and_true, Nat.reduceBEq, Nat.reduceAdd, reduceIte, Nat.reduceEqDiff, SX0_isNone]
      try simp only [tCnt, aK, aN, aR, eq_self, true_and, and_true, Nat.reduceLeDiff, Nat.reduceEqDiff]
      refine ⟨fun c => ?_, fun c => ?_⟩
      · have hlt : i < 24 := (nI_ltI (by omega) (by omega)).mp c
        have hv := vin (n := 24) (i := i) (by omega) (by omega)
        have h30 : i < 30 := by omega
        rw [show (nI i).toNatClampNeg = i from ncl (by omega)]
        
        have h01 : (0 : Nat) < 1 := by decide
        (repeat (first | refine And.intro hv ?_ | refine And.intro h30 ?_ | refine And.intro (by decide) ?_))
        simp only [b2i_0, Decidable.not_not]
        refine ⟨fun c2 => ?_, fun c2 => ?_⟩
        · (repeat (first | refine And.intro hv ?_ | refine And.intro h30 ?_ | refine And.intro (by decide) ?_))
          refine ⟨n - 1, by omega, i + 1, by omega, by omega, ?_⟩
          rw [nI_1]
          simp [bx_sum, c2]
        · (repeat (first | refine And.intro hv ?_ | refine And.intro h30 ?_ | refine And.intro (by decide) ?_))
          refine ⟨n - 1, by omega, i + 1, by omega, by omega, ?_⟩
          rw [nI_1]
          simp [bx_sum, c2]
      · have hge : i = 24 := by
          have := mt (nI_ltI (a := i) (b := 24) (by omega) (by omega)).mpr c
          omega
        subst hge
        exact hS
    refine ⟨by simp only [lk, wd, rm1, rm2, pick, popn, catS, pushO, aLV, cond_true, cond_false, Bool.not_true, Bool.not_false, Bool.and_true, Bool.and_false, Bool.true_and, Bool.false_and, eq_self, true_and, and_true, Nat.reduceBEq, Nat.reduceAdd, reduceIte, Nat.reduceEqDiff]; decide, sBX2_countColumns_0 F hr hlk (SO_or hL) _ _ _ ?_⟩
    simp only [BX2_countColumns_0, BX2_countColumns_4, BX2_countColumns_28, i_push, i_iload, i_aload, i_istore, i_iinc, i_II, i_if, i_cmp, i_getR, i_aald, i_callV, i_iret, i_cut, lk, wd, rm1, rm2, pick, popn, catS, pushO, aLV, cond_true, cond_false, Bool.not_true, Bool.not_false, Bool.and_true, Bool.and_false, Bool.true_and, Bool.false_and, eq_self, true_and, and_true, Nat.reduceBEq, Nat.reduceAdd, reduceIte, Nat.reduceEqDiff, SX0_isNone]
    try simp only [tCnt, aK, aN, aR, eq_self, true_and, and_true, Nat.reduceLeDiff, Nat.reduceEqDiff]
    exact ⟨24, 0, by omega, by omega, rfl⟩
  · exact hS.elim
def SX2_countCells : SP := fun as M post => match as with
  | [.inr (t, i0)] => t = 0 ∧ i0 = 0 ∧ post (some (.inl (.int (x_cells M)))) M
  | _ => False
abbrev rmX2_countCells : Room := ({ frames := 1, cells := 0, slots := 0, locals := 60 } : Room)
def BX2_countCells_36 (Qr : Option AV → MM → Prop) (K4 : PT) (lv : LV) (st : List AV) (M : MM) : Prop := (i_II (fun a b => a + b) (i_istore 1 (i_iinc 2 1 (i_cut [0, 1, 2] K4)))) lv st M
set_option maxRecDepth 100000 in
set_option maxHeartbeats 4000000 in
theorem sBX2_countCells_36 {p : Program} {l : Launch} {e : Env} {s : State} {m : MethodId} {args : Array Value} {below : List Frame} {meth : Method} {c : Code} {G : Nat → Nat → Nat} {cy dC : Nat → ClassId} {dI : Nat → Nat → Nat} {Qr : Option AV → MM → Prop} {K4 : PT} (F : FX p m c cX2_countCells 3 RX2 s args (AW G) G cy dC dI) (hr : meth.sig.returnType = (some .int)) (hlk : meth.locks = false) (h4 : SO p l e rmX2_countCells s m args below meth c 0 0 (MQ below (QI G cy dC dI Qr) args s 0 0 (AW G)) 3 (AW G) G cy dC dI 4 K4) : SO p l e rmX2_countCells s m args below meth c 0 0 (MQ below (QI G cy dC dI Qr) args s 0 0 (AW G)) 3 (AW G) G cy dC dI 36 (BX2_countCells_36 Qr K4) := by
  exact (s_iadd F dX2_countCells_36 (s_istore_n F dX2_countCells_37 rfl (by decide) (s_iinc F dX2_countCells_38 (by decide) (by decide) (s_goto F dX2_countCells_41 (by decide) (s_cut [0, 1, 2] h4)))))
def BX2_countCells_4 (Qr : Option AV → MM → Prop) (K4 : PT) (lv : LV) (st : List AV) (M : MM) : Prop := (i_iload 2 (i_push (.inl (.int 24)) (i_cmp (fun a b => a < b) (i_iload 1 (i_aload 0 (i_getR 0 1 (fun _ => 0) (i_iload 2 (i_aald (i_callV 0 4 SX0_isGone (i_if (fun a => a = 0) (i_aload 0 (i_getR 0 1 (fun _ => 0) (i_iload 2 (i_aald (i_getI 4 1 (i_cut [0, 2] (BX2_countCells_36 Qr K4))))))) (i_push (.inl (.int 0)) (i_cut [0, 2] (BX2_countCells_36 Qr K4)))))))))) (i_iload 1 (i_iret Qr))))) lv st M
set_option maxRecDepth 100000 in
set_option maxHeartbeats 4000000 in
theorem sBX2_countCells_4 {p : Program} {l : Launch} {e : Env} {s : State} {m : MethodId} {args : Array Value} {below : List Frame} {meth : Method} {c : Code} {G : Nat → Nat → Nat} {cy dC : Nat → ClassId} {dI : Nat → Nat → Nat} {Qr : Option AV → MM → Prop} {K4 : PT} (F : FX p m c cX2_countCells 3 RX2 s args (AW G) G cy dC dI) (hr : meth.sig.returnType = (some .int)) (hlk : meth.locks = false) (h4 : SO p l e rmX2_countCells s m args below meth c 0 0 (MQ below (QI G cy dC dI Qr) args s 0 0 (AW G)) 3 (AW G) G cy dC dI 4 K4) : SO p l e rmX2_countCells s m args below meth c 0 0 (MQ below (QI G cy dC dI Qr) args s 0 0 (AW G)) 3 (AW G) G cy dC dI 4 (BX2_countCells_4 Qr K4) := by
  exact (s_iload_n F dX2_countCells_4 rfl (s_bipush F dX2_countCells_5 (by decide) (s_icmp_ge F dX2_countCells_7 (by decide) (s_iload_n F dX2_countCells_44 rfl (s_iret F dX2_countCells_45 hr hlk)) (s_iload_n F dX2_countCells_10 rfl (s_aload_n F dX2_countCells_11 rfl (s_getR F (ci := 2) (f := 0) dX2_countCells_12 rfl in_X2 (by decide) q69 (fun _ _ _ _ => ⟨_, rfl, rfl⟩) (s_iload_n F dX2_countCells_15 rfl (s_aald F dX2_countCells_16 (s_callVi F dX2_countCells_17 (ctX0_isGone l) (lw_V q111 q112 q113 q2 q114) ⟨rfl, rfl⟩ (by decide +kernel) (by decide) ⟨Nat.zero_le _, Nat.zero_le _⟩ (ci := 0) rfl (fun _ _ _ _ => ⟨_, rfl⟩) (s_if_eq F dX2_countCells_20 (by decide) (s_aload_n F dX2_countCells_27 rfl (s_getR F (ci := 2) (f := 0) dX2_countCells_28 rfl in_X2 (by decide) q69 (fun _ _ _ _ => ⟨_, rfl, rfl⟩) (s_iload_n F dX2_countCells_31 rfl (s_aald F dX2_countCells_32 (s_getIN F (ci := 0) (host := "MappingMoves") dX2_countCells_33 rfl in_X0 (by decide) (by decide +kernel) (fun _ _ _ _ => ⟨_, rfl, rfl⟩) (s_cut [0, 2] (sBX2_countCells_36 F hr hlk h4))))))) (s_iconst F dX2_countCells_23 (by decide) (s_goto F dX2_countCells_24 (by decide) (s_cut [0, 2] (sBX2_countCells_36 F hr hlk h4))))))))))))))
def BX2_countCells_0 (Qr : Option AV → MM → Prop) (K4 : PT) (lv : LV) (st : List AV) (M : MM) : Prop := (i_push (.inl (.int 0)) (i_istore 1 (i_push (.inl (.int 0)) (i_istore 2 (i_cut [0, 1, 2] K4))))) lv st M
set_option maxRecDepth 100000 in
set_option maxHeartbeats 4000000 in
theorem sBX2_countCells_0 {p : Program} {l : Launch} {e : Env} {s : State} {m : MethodId} {args : Array Value} {below : List Frame} {meth : Method} {c : Code} {G : Nat → Nat → Nat} {cy dC : Nat → ClassId} {dI : Nat → Nat → Nat} {Qr : Option AV → MM → Prop} {K4 : PT} (F : FX p m c cX2_countCells 3 RX2 s args (AW G) G cy dC dI) (hr : meth.sig.returnType = (some .int)) (hlk : meth.locks = false) (h4 : SO p l e rmX2_countCells s m args below meth c 0 0 (MQ below (QI G cy dC dI Qr) args s 0 0 (AW G)) 3 (AW G) G cy dC dI 4 K4) : SO p l e rmX2_countCells s m args below meth c 0 0 (MQ below (QI G cy dC dI Qr) args s 0 0 (AW G)) 3 (AW G) G cy dC dI 0 (BX2_countCells_0 Qr K4) := by
  exact (s_iconst F dX2_countCells_0 (by decide) (s_istore_n F dX2_countCells_1 rfl (by decide) (s_iconst F dX2_countCells_2 (by decide) (s_istore_n F dX2_countCells_3 rfl (by decide) (s_cut [0, 1, 2] h4)))))
set_option maxRecDepth 100000 in
set_option maxHeartbeats 4000000 in
theorem ctX2_countCells (l : Launch) : CI l yX2_countCells (ws_ yX2_countCells cX2_countCells 3 (some .int)) rmX2_countCells SX2_countCells := by
  refine mk_CI (by decide) ?_
  intro p e s m args below meth c G cy dC dI F hr hlk as M post hS
  unfold SX2_countCells at hS
  split at hS
  · rename_i t i0
    obtain ⟨rfl, rfl, hS⟩ := hS
    unfold x_cells at hS
    have hL : ∀ n, SO p l e rmX2_countCells s m args below meth c 0 0 (MQ below (QI G cy dC dI post) args s 0 0 (AW G)) 3 (AW G) G cy dC dI 4 ((fun (n : Nat) (lv : LV) (st : List AV) (M' : MM) => ∃ i : Nat, i ≤ 24 ∧ n = 24 - i ∧ lv = [(0, .inr (0, 0)), (1, .inl (.int (bx_sum (fun p => if M.1 4 p 1 = -1 then 0 else M.1 4 p 1) i))), (2, .inl (.int (nI i)))] ∧ st = [] ∧ M' = M) n) := by
      refine SO_loop (fun K => BX2_countCells_4 post K) (fun K hK => sBX2_countCells_4 F hr hlk hK) (fun (n : Nat) (lv : LV) (st : List AV) (M' : MM) => ∃ i : Nat, i ≤ 24 ∧ n = 24 - i ∧ lv = [(0, .inr (0, 0)), (1, .inl (.int (bx_sum (fun p => if M.1 4 p 1 = -1 then 0 else M.1 4 p 1) i))), (2, .inl (.int (nI i)))] ∧ st = [] ∧ M' = M) ?_
      intro n lv st M' ⟨i, hi, hn, e1, e2, e3⟩
      subst e1; subst e2; subst e3
      simp only [BX2_countCells_0, BX2_countCells_4, BX2_countCells_36, i_push, i_iload, i_aload, i_istore, i_iinc, i_II, i_if, i_cmp, i_getI, i_getR, i_aald, i_callV, i_iret, i_cut, lk, wd, rm1, rm2, pick, popn, catS, pushO, aLV, cond_true, cond_false, Bool.not_true, Bool.not_false, Bool.and_true, Bool.and_false, Bool.true_and, Bool.false_and, eq_self, true_and, and_true, Nat.reduceBEq, Nat.reduceAdd, reduceIte, Nat.reduceEqDiff, SX0_isGone]
      try simp only [tCnt, aK, aN, aR, eq_self, true_and, and_true, Nat.reduceLeDiff, Nat.reduceEqDiff]
      refine ⟨fun c => ?_, fun c => ?_⟩
      · have hlt : i < 24 := (nI_ltI (by omega) (by omega)).mp c
        have hv := vin (n := 24) (i := i) (by omega) (by omega)
        have h30 : i < 30 := by omega
        rw [show (nI i).toNatClampNeg = i from ncl (by omega)]
        
        have h01 : (0 : Nat) < 1 := by decide
        (repeat (first | refine And.intro hv ?_ | refine And.intro h30 ?_ | refine And.intro (by decide) ?_))
        simp only [b2i_0, Decidable.not_not]
        refine ⟨fun c2 => ?_, fun c2 => ?_⟩
        · (repeat (first | refine And.intro hv ?_ | refine And.intro h30 ?_ | refine And.intro (by decide) ?_))
          refine ⟨n - 1, by omega, i + 1, by omega, by omega, ?_⟩
          rw [nI_1]
          simp [bx_sum, c2]
        · (repeat (first | refine And.intro hv ?_ | refine And.intro h30 ?_ | refine And.intro (by decide) ?_))
          refine ⟨n - 1, by omega, i + 1, by omega, by omega, ?_⟩
          rw [nI_1]
          simp [bx_sum, c2]
      · have hge : i = 24 := by
          have := mt (nI_ltI (a := i) (b := 24) (by omega) (by omega)).mpr c
          omega
        subst hge
        exact hS
    refine ⟨by simp only [lk, wd, rm1, rm2, pick, popn, catS, pushO, aLV, cond_true, cond_false, Bool.not_true, Bool.not_false, Bool.and_true, Bool.and_false, Bool.true_and, Bool.false_and, eq_self, true_and, and_true, Nat.reduceBEq, Nat.reduceAdd, reduceIte, Nat.reduceEqDiff]; decide, sBX2_countCells_0 F hr hlk (SO_or hL) _ _ _ ?_⟩
    simp only [BX2_countCells_0, BX2_countCells_4, BX2_countCells_36, i_push, i_iload, i_aload, i_istore, i_iinc, i_II, i_if, i_cmp, i_getI, i_getR, i_aald, i_callV, i_iret, i_cut, lk, wd, rm1, rm2, pick, popn, catS, pushO, aLV, cond_true, cond_false, Bool.not_true, Bool.not_false, Bool.and_true, Bool.and_false, Bool.true_and, Bool.false_and, eq_self, true_and, and_true, Nat.reduceBEq, Nat.reduceAdd, reduceIte, Nat.reduceEqDiff, SX0_isGone]
    try simp only [tCnt, aK, aN, aR, eq_self, true_and, and_true, Nat.reduceLeDiff, Nat.reduceEqDiff]
    exact ⟨24, 0, by omega, by omega, rfl⟩
  · exact hS.elim
def SX2_countHeld : SP := fun as M post => match as with
  | [.inr (t, i0)] => t = 0 ∧ i0 = 0 ∧ (∀ p, p < 30 → cOK M p) ∧ post (some (.inl (.int (x_held M)))) M
  | _ => False
abbrev rmX2_countHeld : Room := ({ frames := 2, cells := 0, slots := 0, locals := 120 } : Room)
def BX2_countHeld_4 (Qr : Option AV → MM → Prop) (K4 : PT) (lv : LV) (st : List AV) (M : MM) : Prop := (i_iload 2 (i_push (.inl (.int 24)) (i_cmp (fun a b => a < b) (i_iload 1 (i_aload 0 (i_getR 0 1 (fun _ => 0) (i_iload 2 (i_aald (i_callV 0 4 SX0_countHeldHere (i_II (fun a b => a + b) (i_istore 1 (i_iinc 2 1 (i_cut [0, 1, 2] K4)))))))))) (i_iload 1 (i_iret Qr))))) lv st M
set_option maxRecDepth 100000 in
set_option maxHeartbeats 4000000 in
theorem sBX2_countHeld_4 {p : Program} {l : Launch} {e : Env} {s : State} {m : MethodId} {args : Array Value} {below : List Frame} {meth : Method} {c : Code} {G : Nat → Nat → Nat} {cy dC : Nat → ClassId} {dI : Nat → Nat → Nat} {Qr : Option AV → MM → Prop} {K4 : PT} (F : FX p m c cX2_countHeld 3 RX2 s args (AW G) G cy dC dI) (hr : meth.sig.returnType = (some .int)) (hlk : meth.locks = false) (h4 : SO p l e rmX2_countHeld s m args below meth c 0 0 (MQ below (QI G cy dC dI Qr) args s 0 0 (AW G)) 3 (AW G) G cy dC dI 4 K4) : SO p l e rmX2_countHeld s m args below meth c 0 0 (MQ below (QI G cy dC dI Qr) args s 0 0 (AW G)) 3 (AW G) G cy dC dI 4 (BX2_countHeld_4 Qr K4) := by
  exact (s_iload_n F dX2_countHeld_4 rfl (s_bipush F dX2_countHeld_5 (by decide) (s_icmp_ge F dX2_countHeld_7 (by decide) (s_iload_n F dX2_countHeld_28 rfl (s_iret F dX2_countHeld_29 hr hlk)) (s_iload_n F dX2_countHeld_10 rfl (s_aload_n F dX2_countHeld_11 rfl (s_getR F (ci := 2) (f := 0) dX2_countHeld_12 rfl in_X2 (by decide) q69 (fun _ _ _ _ => ⟨_, rfl, rfl⟩) (s_iload_n F dX2_countHeld_15 rfl (s_aald F dX2_countHeld_16 (s_callVi F dX2_countHeld_17 (ctX0_countHeldHere l) (lw_V q325 q326 q327 q2 q328) ⟨rfl, rfl⟩ (by decide +kernel) (by decide) ⟨Nat.zero_le _, Nat.zero_le _⟩ (ci := 0) rfl (fun _ _ _ _ => ⟨_, rfl⟩) (s_iadd F dX2_countHeld_20 (s_istore_n F dX2_countHeld_21 rfl (by decide) (s_iinc F dX2_countHeld_22 (by decide) (by decide) (s_goto F dX2_countHeld_25 (by decide) (s_cut [0, 1, 2] h4))))))))))))))
def BX2_countHeld_0 (Qr : Option AV → MM → Prop) (K4 : PT) (lv : LV) (st : List AV) (M : MM) : Prop := (i_push (.inl (.int 0)) (i_istore 1 (i_push (.inl (.int 0)) (i_istore 2 (i_cut [0, 1, 2] K4))))) lv st M
set_option maxRecDepth 100000 in
set_option maxHeartbeats 4000000 in
theorem sBX2_countHeld_0 {p : Program} {l : Launch} {e : Env} {s : State} {m : MethodId} {args : Array Value} {below : List Frame} {meth : Method} {c : Code} {G : Nat → Nat → Nat} {cy dC : Nat → ClassId} {dI : Nat → Nat → Nat} {Qr : Option AV → MM → Prop} {K4 : PT} (F : FX p m c cX2_countHeld 3 RX2 s args (AW G) G cy dC dI) (hr : meth.sig.returnType = (some .int)) (hlk : meth.locks = false) (h4 : SO p l e rmX2_countHeld s m args below meth c 0 0 (MQ below (QI G cy dC dI Qr) args s 0 0 (AW G)) 3 (AW G) G cy dC dI 4 K4) : SO p l e rmX2_countHeld s m args below meth c 0 0 (MQ below (QI G cy dC dI Qr) args s 0 0 (AW G)) 3 (AW G) G cy dC dI 0 (BX2_countHeld_0 Qr K4) := by
  exact (s_iconst F dX2_countHeld_0 (by decide) (s_istore_n F dX2_countHeld_1 rfl (by decide) (s_iconst F dX2_countHeld_2 (by decide) (s_istore_n F dX2_countHeld_3 rfl (by decide) (s_cut [0, 1, 2] h4)))))
set_option maxRecDepth 100000 in
set_option maxHeartbeats 4000000 in
theorem ctX2_countHeld (l : Launch) : CI l yX2_countHeld (ws_ yX2_countHeld cX2_countHeld 3 (some .int)) rmX2_countHeld SX2_countHeld := by
  refine mk_CI (by decide) ?_
  intro p e s m args below meth c G cy dC dI F hr hlk as M post hS
  unfold SX2_countHeld at hS
  split at hS
  · rename_i t i0
    obtain ⟨rfl, rfl, hc, hS⟩ := hS
    unfold x_held at hS
    have hL : ∀ n, SO p l e rmX2_countHeld s m args below meth c 0 0 (MQ below (QI G cy dC dI post) args s 0 0 (AW G)) 3 (AW G) G cy dC dI 4 ((fun (n : Nat) (lv : LV) (st : List AV) (M' : MM) => ∃ i : Nat, i ≤ 24 ∧ n = 24 - i ∧ lv = [(0, .inr (0, 0)), (1, .inl (.int (bx_sum (fun p => if M.1 4 p 0 < 7 then 0 else bx_sum (xH M p) (cnt M p)) i))), (2, .inl (.int (nI i)))] ∧ st = [] ∧ M' = M) n) := by
      refine SO_loop (fun K => BX2_countHeld_4 post K) (fun K hK => sBX2_countHeld_4 F hr hlk hK) (fun (n : Nat) (lv : LV) (st : List AV) (M' : MM) => ∃ i : Nat, i ≤ 24 ∧ n = 24 - i ∧ lv = [(0, .inr (0, 0)), (1, .inl (.int (bx_sum (fun p => if M.1 4 p 0 < 7 then 0 else bx_sum (xH M p) (cnt M p)) i))), (2, .inl (.int (nI i)))] ∧ st = [] ∧ M' = M) ?_
      intro n lv st M' ⟨i, hi, hn, e1, e2, e3⟩
      subst e1; subst e2; subst e3
      simp only [BX2_countHeld_0, BX2_countHeld_4, i_push, i_iload, i_aload, i_istore, i_iinc, i_II, i_cmp, i_getR, i_aald, i_callV, i_iret, i_cut, lk, wd, rm1, rm2, pick, popn, catS, pushO, aLV, cond_true, cond_false, Bool.not_true, Bool.not_false, Bool.and_true, Bool.and_false, Bool.true_and, Bool.false_and, eq_self, true_and, and_true, Nat.reduceBEq, Nat.reduceAdd, reduceIte, Nat.reduceEqDiff, SX0_countHeldHere]
      try simp only [tCnt, aK, aN, aR, eq_self, true_and, and_true, Nat.reduceLeDiff, Nat.reduceEqDiff]
      refine ⟨fun c => ?_, fun c => ?_⟩
      · have hlt : i < 24 := (nI_ltI (by omega) (by omega)).mp c
        have hv := vin (n := 24) (i := i) (by omega) (by omega)
        have h30 : i < 30 := by omega
        rw [show (nI i).toNatClampNeg = i from ncl (by omega)]
        have hck := hc i h30
        have h30b : i < 30 ∧ cOK M' i := ⟨h30, hck⟩
        have h01 : (0 : Nat) < 1 := by decide
        (repeat (first | refine And.intro hv ?_ | refine And.intro h30 ?_ | refine And.intro hck ?_ | refine And.intro (by decide) ?_))
        exact ⟨n - 1, by omega, i + 1, by omega, by omega, by rw [nI_1]; rfl⟩
      · have hge : i = 24 := by
          have := mt (nI_ltI (a := i) (b := 24) (by omega) (by omega)).mpr c
          omega
        subst hge
        exact hS
    refine ⟨by simp only [lk, wd, rm1, rm2, pick, popn, catS, pushO, aLV, cond_true, cond_false, Bool.not_true, Bool.not_false, Bool.and_true, Bool.and_false, Bool.true_and, Bool.false_and, eq_self, true_and, and_true, Nat.reduceBEq, Nat.reduceAdd, reduceIte, Nat.reduceEqDiff]; decide, sBX2_countHeld_0 F hr hlk (SO_or hL) _ _ _ ?_⟩
    simp only [BX2_countHeld_0, BX2_countHeld_4, i_push, i_iload, i_aload, i_istore, i_iinc, i_II, i_cmp, i_getR, i_aald, i_callV, i_iret, i_cut, lk, wd, rm1, rm2, pick, popn, catS, pushO, aLV, cond_true, cond_false, Bool.not_true, Bool.not_false, Bool.and_true, Bool.and_false, Bool.true_and, Bool.false_and, eq_self, true_and, and_true, Nat.reduceBEq, Nat.reduceAdd, reduceIte, Nat.reduceEqDiff, SX0_countHeldHere]
    try simp only [tCnt, aK, aN, aR, eq_self, true_and, and_true, Nat.reduceLeDiff, Nat.reduceEqDiff]
    exact ⟨24, 0, by omega, by omega, rfl⟩
  · exact hS.elim
def SX2_told : SP := fun as M post => match as with
  | [.inr (t, i0), .inl (.int w)] => t = 0 ∧ i0 = 0 ∧ XOK M ∧ post (some (.inl (.int (x_told M w)))) M
  | _ => False
abbrev rmX2_told : Room := ({ frames := 3, cells := 0, slots := 0, locals := 180 } : Room)
theorem tsw_X2_told_1 (x : Int32) : (¬ x.toInt < 0 ∧ ¬ 3 < x.toInt ∧ ∃ off, (#[31, 36, 41, 46] : Array Int)[(x.toInt - 0).toNat]? = some off ∧ ((1 : Nat) : Int) + off = (((if x = 0 then 32 else if x = 1 then 37 else if x = 2 then 42 else if x = 3 then 47 else 52) : Nat) : Int)) ∨ ((x.toInt < 0 ∨ 3 < x.toInt) ∧ (if x = 0 then 32 else if x = 1 then 37 else if x = 2 then 42 else if x = 3 then 47 else 52) = 52) := by
  by_cases e0 : x = 0
  · subst e0; exact Or.inl ⟨by decide, by decide, _, rfl, by decide⟩
  by_cases e1 : x = 1
  · subst e1; exact Or.inl ⟨by decide, by decide, _, rfl, by decide⟩
  by_cases e2 : x = 2
  · subst e2; exact Or.inl ⟨by decide, by decide, _, rfl, by decide⟩
  by_cases e3 : x = 3
  · subst e3; exact Or.inl ⟨by decide, by decide, _, rfl, by decide⟩
  right
  have n0 := lv_neT e0 (a := 0) (by decide)
  have n1 := lv_neT e1 (a := 1) (by decide)
  have n2 := lv_neT e2 (a := 2) (by decide)
  have n3 := lv_neT e3 (a := 3) (by decide)
  exact ⟨by omega, by simp only [if_neg e0, if_neg e1, if_neg e2, if_neg e3]⟩
def BX2_told_0 (Qr : Option AV → MM → Prop) (lv : LV) (st : List AV) (M : MM) : Prop := (i_iload 1 (i_sw [(0, (i_aload 0 (i_callV 0 0 SX2_countColumns (i_iret Qr)))), (1, (i_aload 0 (i_callV 0 0 SX2_countCells (i_iret Qr)))), (2, (i_aload 0 (i_getI 0 3 (i_iret Qr)))), (3, (i_aload 0 (i_callV 0 0 SX2_countHeld (i_iret Qr))))] (i_push (.inl (.int (-1))) (i_iret Qr)))) lv st M
set_option maxRecDepth 100000 in
set_option maxHeartbeats 4000000 in
theorem sBX2_told_0 {p : Program} {l : Launch} {e : Env} {s : State} {m : MethodId} {args : Array Value} {below : List Frame} {meth : Method} {c : Code} {G : Nat → Nat → Nat} {cy dC : Nat → ClassId} {dI : Nat → Nat → Nat} {Qr : Option AV → MM → Prop} (F : FX p m c cX2_told 2 RX2 s args (AW G) G cy dC dI) (hr : meth.sig.returnType = (some .int)) (hlk : meth.locks = false) : SO p l e rmX2_told s m args below meth c 0 0 (MQ below (QI G cy dC dI Qr) args s 0 0 (AW G)) 2 (AW G) G cy dC dI 0 (BX2_told_0 Qr) := by
  exact (s_iload_n F dX2_told_0 rfl (s_tsw F [(0, (i_aload 0 (i_callV 0 0 SX2_countColumns (i_iret Qr)))), (1, (i_aload 0 (i_callV 0 0 SX2_countCells (i_iret Qr)))), (2, (i_aload 0 (i_getI 0 3 (i_iret Qr)))), (3, (i_aload 0 (i_callV 0 0 SX2_countHeld (i_iret Qr))))] (fun x => if x = 0 then 32 else if x = 1 then 37 else if x = 2 then 42 else if x = 3 then 47 else 52) 52 dX2_told_1 (by decide) (tsw_X2_told_1) (List.forall_mem_cons.mpr ⟨(show SO _ _ _ _ _ _ _ _ _ _ _ _ _ _ _ _ _ _ _ 32 _ from (s_aload_n F dX2_told_32 rfl (s_callVi F dX2_told_33 (ctX2_countColumns l) (lw_V q313 q315 qs6 q1 q316) ⟨rfl, rfl⟩ (by decide +kernel) (by decide) ⟨Nat.zero_le _, Nat.zero_le _⟩ (ci := 2) rfl (fun _ _ _ _ => ⟨_, rfl⟩) (s_iret F dX2_told_36 hr hlk)))), (List.forall_mem_cons.mpr ⟨(show SO _ _ _ _ _ _ _ _ _ _ _ _ _ _ _ _ _ _ _ 37 _ from (s_aload_n F dX2_told_37 rfl (s_callVi F dX2_told_38 (ctX2_countCells l) (lw_V q317 q319 qs7 q1 q320) ⟨rfl, rfl⟩ (by decide +kernel) (by decide) ⟨Nat.zero_le _, Nat.zero_le _⟩ (ci := 2) rfl (fun _ _ _ _ => ⟨_, rfl⟩) (s_iret F dX2_told_41 hr hlk)))), (List.forall_mem_cons.mpr ⟨(show SO _ _ _ _ _ _ _ _ _ _ _ _ _ _ _ _ _ _ _ 42 _ from (s_aload_n F dX2_told_42 rfl (s_getI F (ci := 2) dX2_told_43 rfl in_X2 (by decide) q72 (fun _ _ _ _ => ⟨_, rfl, rfl⟩) (s_iret F dX2_told_46 hr hlk)))), (List.forall_mem_cons.mpr ⟨(show SO _ _ _ _ _ _ _ _ _ _ _ _ _ _ _ _ _ _ _ 47 _ from (s_aload_n F dX2_told_47 rfl (s_callVi F dX2_told_48 (ctX2_countHeld l) (lw_V q321 q323 qs8 q1 q324) ⟨rfl, rfl⟩ (by decide +kernel) (by decide) ⟨Nat.zero_le _, Nat.zero_le _⟩ (ci := 2) rfl (fun _ _ _ _ => ⟨_, rfl⟩) (s_iret F dX2_told_51 hr hlk)))), fun _ hq => nomatch hq⟩)⟩)⟩)⟩) (fun x hx => by have hx2 := hx; simp only [List.forall_mem_cons] at hx2; obtain ⟨e0, e1, e2, e3, -⟩ := hx2; have hgo : (if x = 0 then 32 else if x = 1 then 37 else if x = 2 then 42 else if x = 3 then 47 else 52) = 52 := (by simp only [if_neg e0, if_neg e1, if_neg e2, if_neg e3]); show SO _ _ _ _ _ _ _ _ _ _ _ _ _ _ _ _ _ _ _ (if x = 0 then 32 else if x = 1 then 37 else if x = 2 then 42 else if x = 3 then 47 else 52) _; rw [hgo]; exact (s_iconst F dX2_told_52 (by decide) (s_iret F dX2_told_53 hr hlk)))))
set_option maxRecDepth 100000 in
set_option maxHeartbeats 4000000 in
theorem ctX2_told (l : Launch) : CI l yX2_told (ws_ yX2_told cX2_told 2 (some .int)) rmX2_told SX2_told := by
  refine mk_CI (by decide) ?_
  intro p e s m args below meth c G cy dC dI F hr hlk as M post hS
  unfold SX2_told at hS
  split at hS
  · rename_i t i0 w
    obtain ⟨rfl, rfl, hX, hS⟩ := hS
    refine ⟨by simp only [lk, wd, rm1, rm2, pick, popn, catS, pushO, aLV, cond_true, cond_false, Bool.not_true, Bool.not_false, Bool.and_true, Bool.and_false, Bool.true_and, Bool.false_and, eq_self, true_and, and_true, Nat.reduceBEq, Nat.reduceAdd, reduceIte, Nat.reduceEqDiff]; decide, sBX2_told_0 F hr hlk _ _ _ ?_⟩
    simp only [BX2_told_0, i_push, i_iload, i_aload, i_sw, i_getI, i_callV, i_iret, i_swc, lk, wd, rm1, rm2, pick, popn, catS, pushO, aLV, cond_true, cond_false, Bool.not_true, Bool.not_false, Bool.and_true, Bool.and_false, Bool.true_and, Bool.false_and, eq_self, true_and, and_true, Nat.reduceBEq, Nat.reduceAdd, reduceIte, Nat.reduceEqDiff, SX2_countCells, SX2_countColumns, SX2_countHeld]
    try simp only [tCnt, aK, aN, aR, eq_self, true_and, and_true, Nat.reduceLeDiff, Nat.reduceEqDiff]
    have hc := hX.1
    (try simp only [b2i_0, Bool.not_eq_true, Bool.not_eq_false])
    (repeat' (first | with_reducible assumption | exact b2i_1 _ | apply And.intro | intro _)) <;> (first | with_reducible assumption | decide | (simpa [x_told, *] using hS) | (simp_all [x_told]; done))
  · exact hS.elim
def SX2_moveByDigit : SP := fun as M post => match as with
  | [.inr (t, i0), .inr (t2, p0), .inl (.int d)] => t = 0 ∧ i0 = 0 ∧ t2 = 4 ∧ p0 < 30 ∧ post none (x_mbd M p0 d)
  | _ => False
abbrev rmX2_moveByDigit : Room := ({ frames := 3, cells := 0, slots := 0, locals := 180 } : Room)
def BX2_moveByDigit_23 (Qr : Option AV → MM → Prop) (lv : LV) (st : List AV) (M : MM) : Prop := (i_iload 2 (i_push (.inl (.int 6)) (i_cmp (fun a b => a = b) (i_aload 1 (i_callV 0 4 SX0_end (i_vret Qr))) (i_vret Qr)))) lv st M
set_option maxRecDepth 100000 in
set_option maxHeartbeats 4000000 in
theorem sBX2_moveByDigit_23 {p : Program} {l : Launch} {e : Env} {s : State} {m : MethodId} {args : Array Value} {below : List Frame} {meth : Method} {c : Code} {G : Nat → Nat → Nat} {cy dC : Nat → ClassId} {dI : Nat → Nat → Nat} {Qr : Option AV → MM → Prop} (F : FX p m c cX2_moveByDigit 3 RX2 s args (AW G) G cy dC dI) (hr : meth.sig.returnType = none) (hlk : meth.locks = false) : SO p l e rmX2_moveByDigit s m args below meth c 0 0 (MQ below (QV G cy dC dI Qr) args s 0 0 (AW G)) 3 (AW G) G cy dC dI 23 (BX2_moveByDigit_23 Qr) := by
  exact (s_iload_n F dX2_moveByDigit_23 rfl (s_bipush F dX2_moveByDigit_24 (by decide) (s_icmp_ne F dX2_moveByDigit_26 (by decide) (s_vret F dX2_moveByDigit_33 hr hlk) (s_aload_n F dX2_moveByDigit_29 rfl (s_callVv F dX2_moveByDigit_30 (ctX0_end l) (lw_V q127 q128 q129 q2 q130) ⟨rfl, rfl⟩ (by decide +kernel) (by decide) ⟨Nat.zero_le _, Nat.zero_le _⟩ (ci := 0) rfl (fun _ _ _ _ => ⟨_, rfl⟩) (s_vret F dX2_moveByDigit_33 hr hlk))))))
def BX2_moveByDigit_0 (Qr : Option AV → MM → Prop) (lv : LV) (st : List AV) (M : MM) : Prop := (i_iload 2 (i_if (fun a => a < 0) (i_cut [1, 2] (BX2_moveByDigit_23 Qr)) (i_iload 2 (i_push (.inl (.int 6)) (i_cmp (fun a b => a < b) (i_aload 1 (i_aload 0 (i_getR 0 2 (fun _ => 0) (i_iload 2 (i_aald (i_callV 1 4 SX0_becomeLike (i_vret Qr))))))) (i_cut [1, 2] (BX2_moveByDigit_23 Qr))))))) lv st M
set_option maxRecDepth 100000 in
set_option maxHeartbeats 4000000 in
theorem sBX2_moveByDigit_0 {p : Program} {l : Launch} {e : Env} {s : State} {m : MethodId} {args : Array Value} {below : List Frame} {meth : Method} {c : Code} {G : Nat → Nat → Nat} {cy dC : Nat → ClassId} {dI : Nat → Nat → Nat} {Qr : Option AV → MM → Prop} (F : FX p m c cX2_moveByDigit 3 RX2 s args (AW G) G cy dC dI) (hr : meth.sig.returnType = none) (hlk : meth.locks = false) : SO p l e rmX2_moveByDigit s m args below meth c 0 0 (MQ below (QV G cy dC dI Qr) args s 0 0 (AW G)) 3 (AW G) G cy dC dI 0 (BX2_moveByDigit_0 Qr) := by
  exact (s_iload_n F dX2_moveByDigit_0 rfl (s_if_lt F dX2_moveByDigit_1 (by decide) (s_cut [1, 2] (sBX2_moveByDigit_23 F hr hlk)) (s_iload_n F dX2_moveByDigit_4 rfl (s_bipush F dX2_moveByDigit_5 (by decide) (s_icmp_ge F dX2_moveByDigit_7 (by decide) (s_cut [1, 2] (sBX2_moveByDigit_23 F hr hlk)) (s_aload_n F dX2_moveByDigit_10 rfl (s_aload_n F dX2_moveByDigit_11 rfl (s_getR F (ci := 2) (f := 1) dX2_moveByDigit_12 rfl in_X2 (by decide) q70 (fun _ _ _ _ => ⟨_, rfl, rfl⟩) (s_iload_n F dX2_moveByDigit_15 rfl (s_aald F dX2_moveByDigit_16 (s_callVv F dX2_moveByDigit_17 (ctX0_becomeLike l) (lw_V q292 q293 q294 q2 q295) ⟨rfl, rfl⟩ (by decide +kernel) (by decide) ⟨Nat.zero_le _, Nat.zero_le _⟩ (ci := 0) rfl (fun _ _ _ _ => ⟨_, rfl⟩) (s_goto F dX2_moveByDigit_20 (by decide) (s_vret F dX2_moveByDigit_33 hr hlk)))))))))))))
set_option maxRecDepth 100000 in
set_option maxHeartbeats 4000000 in
theorem ctX2_moveByDigit (l : Launch) : CV l yX2_moveByDigit (ws_ yX2_moveByDigit cX2_moveByDigit 3 none) rmX2_moveByDigit SX2_moveByDigit := by
  refine mk_CV (by decide) ?_
  intro p e s m args below meth c G cy dC dI F hr hlk as M post hS
  unfold SX2_moveByDigit at hS
  split at hS
  · rename_i t i0 t2 p0 d
    obtain ⟨rfl, rfl, rfl, hp, hS⟩ := hS
    refine ⟨by simp only [lk, wd, rm1, rm2, pick, popn, catS, pushO, aLV, cond_true, cond_false, Bool.not_true, Bool.not_false, Bool.and_true, Bool.and_false, Bool.true_and, Bool.false_and, eq_self, true_and, and_true, Nat.reduceBEq, Nat.reduceAdd, reduceIte, Nat.reduceEqDiff]; decide, sBX2_moveByDigit_0 F hr hlk _ _ _ ?_⟩
    simp only [BX2_moveByDigit_0, BX2_moveByDigit_23, i_push, i_iload, i_aload, i_if, i_cmp, i_getR, i_aald, i_callV, i_vret, i_cut, lk, wd, rm1, rm2, pick, popn, catS, pushO, aLV, cond_true, cond_false, Bool.not_true, Bool.not_false, Bool.and_true, Bool.and_false, Bool.true_and, Bool.false_and, eq_self, true_and, and_true, Nat.reduceBEq, Nat.reduceAdd, reduceIte, Nat.reduceEqDiff, SX0_becomeLike, SX0_end]
    try simp only [tCnt, aK, aN, aR, eq_self, true_and, and_true, Nat.reduceLeDiff, Nat.reduceEqDiff]
    have hd1 : ¬ d < 0 → d < 6 → vp_in d 6 := fun h1 h2 => (d6_in h1 h2).1
    have hd2 : ¬ d < 0 → d < 6 → 24 + cl d < 30 := fun h1 h2 => (d6_in h1 h2).2
    (try simp only [b2i_0, Bool.not_eq_true, Bool.not_eq_false])
    (repeat' (first | with_reducible assumption | exact b2i_1 _ | exact hd1 (by with_reducible assumption) (by with_reducible assumption) | exact hd2 (by with_reducible assumption) (by with_reducible assumption) | apply And.intro | intro _)) <;> (first | with_reducible assumption | decide | (simpa [x_mbd, *] using hS) | (simp_all [x_mbd]; done))
  · exact hS.elim
