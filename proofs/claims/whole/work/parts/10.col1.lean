def SX0_isNone : SP := fun as M post => match as with
  | [.inr (t, p0)] => t = 4 ∧ p0 < 30 ∧ post (some (.inl (.int (b2i (M.1 4 p0 0 = -1))))) M
  | _ => False
abbrev rmX0_isNone : Room := ({ frames := 0, cells := 0, slots := 0, locals := 0 } : Room)
def BX0_isNone_0 (Qr : Option AV → MM → Prop) (lv : LV) (st : List AV) (M : MM) : Prop := (i_aload 0 (i_getI 4 0 (i_push (.inl (.int (-1))) (i_cmp (fun a b => a = b) (i_push (.inl (.int 1)) (i_zret Qr)) (i_push (.inl (.int 0)) (i_zret Qr)))))) lv st M
set_option maxRecDepth 100000 in
set_option maxHeartbeats 4000000 in
theorem sBX0_isNone_0 {p : Program} {l : Launch} {e : Env} {s : State} {m : MethodId} {args : Array Value} {below : List Frame} {meth : Method} {c : Code} {G : Nat → Nat → Nat} {cy dC : Nat → ClassId} {dI : Nat → Nat → Nat} {Qr : Option AV → MM → Prop} (F : FX p m c cX0_isNone 1 RX0 s args (AW G) G cy dC dI) (hr : meth.sig.returnType = (some .boolean)) (hlk : meth.locks = false) : SO p l e rmX0_isNone s m args below meth c 0 0 (MQ below (QI G cy dC dI Qr) args s 0 0 (AW G)) 1 (AW G) G cy dC dI 0 (BX0_isNone_0 Qr) := by
  exact (s_aload_n F dX0_isNone_0 rfl (s_getI F (ci := 0) dX0_isNone_1 rfl in_X0 (by decide) q31 (fun _ _ _ _ => ⟨_, rfl, rfl⟩) (s_iconst F dX0_isNone_4 (by decide) (s_icmp_ne F dX0_isNone_5 (by decide) (s_iconst F dX0_isNone_12 (by decide) (s_zret F dX0_isNone_13 hr hlk)) (s_iconst F dX0_isNone_8 (by decide) (s_goto F dX0_isNone_9 (by decide) (s_zret F dX0_isNone_13 hr hlk)))))))
set_option maxRecDepth 100000 in
set_option maxHeartbeats 4000000 in
theorem ctX0_isNone (l : Launch) : CI l yX0_isNone (ws_ yX0_isNone cX0_isNone 1 (some .boolean)) rmX0_isNone SX0_isNone := by
  refine mk_CI (by decide) ?_
  intro p e s m args below meth c G cy dC dI F hr hlk as M post hS
  unfold SX0_isNone at hS
  split at hS
  · rename_i t p0
    obtain ⟨rfl, hp, hS⟩ := hS
    refine ⟨by simp only [lk, wd, rm1, rm2, pick, popn, catS, pushO, aLV, cond_true, cond_false, Bool.not_true, Bool.not_false, Bool.and_true, Bool.and_false, Bool.true_and, Bool.false_and, eq_self, true_and, and_true, Nat.reduceBEq, Nat.reduceAdd, reduceIte, Nat.reduceEqDiff]; decide, sBX0_isNone_0 F hr hlk _ _ _ ?_⟩
    simp only [BX0_isNone_0, i_push, i_aload, i_cmp, i_getI, i_zret, lk, wd, rm1, rm2, pick, popn, catS, pushO, aLV, cond_true, cond_false, Bool.not_true, Bool.not_false, Bool.and_true, Bool.and_false, Bool.true_and, Bool.false_and, eq_self, true_and, and_true, Nat.reduceBEq, Nat.reduceAdd, reduceIte, Nat.reduceEqDiff]
    try simp only [tCnt, aK, aN, aR, eq_self, true_and, and_true, Nat.reduceLeDiff, Nat.reduceEqDiff]
    (repeat' (first | assumption | exact b2i_1 _ | apply And.intro | intro _)) <;> (first | assumption | decide | (simp_all [b2i]; done))
  · exact hS.elim
def SX0_isGone : SP := fun as M post => match as with
  | [.inr (t, p0)] => t = 4 ∧ p0 < 30 ∧ post (some (.inl (.int (b2i (M.1 4 p0 1 = -1))))) M
  | _ => False
abbrev rmX0_isGone : Room := ({ frames := 0, cells := 0, slots := 0, locals := 0 } : Room)
def BX0_isGone_0 (Qr : Option AV → MM → Prop) (lv : LV) (st : List AV) (M : MM) : Prop := (i_aload 0 (i_getI 4 1 (i_push (.inl (.int (-1))) (i_cmp (fun a b => a = b) (i_push (.inl (.int 1)) (i_zret Qr)) (i_push (.inl (.int 0)) (i_zret Qr)))))) lv st M
set_option maxRecDepth 100000 in
set_option maxHeartbeats 4000000 in
theorem sBX0_isGone_0 {p : Program} {l : Launch} {e : Env} {s : State} {m : MethodId} {args : Array Value} {below : List Frame} {meth : Method} {c : Code} {G : Nat → Nat → Nat} {cy dC : Nat → ClassId} {dI : Nat → Nat → Nat} {Qr : Option AV → MM → Prop} (F : FX p m c cX0_isGone 1 RX0 s args (AW G) G cy dC dI) (hr : meth.sig.returnType = (some .boolean)) (hlk : meth.locks = false) : SO p l e rmX0_isGone s m args below meth c 0 0 (MQ below (QI G cy dC dI Qr) args s 0 0 (AW G)) 1 (AW G) G cy dC dI 0 (BX0_isGone_0 Qr) := by
  exact (s_aload_n F dX0_isGone_0 rfl (s_getI F (ci := 0) dX0_isGone_1 rfl in_X0 (by decide) q33 (fun _ _ _ _ => ⟨_, rfl, rfl⟩) (s_iconst F dX0_isGone_4 (by decide) (s_icmp_ne F dX0_isGone_5 (by decide) (s_iconst F dX0_isGone_12 (by decide) (s_zret F dX0_isGone_13 hr hlk)) (s_iconst F dX0_isGone_8 (by decide) (s_goto F dX0_isGone_9 (by decide) (s_zret F dX0_isGone_13 hr hlk)))))))
set_option maxRecDepth 100000 in
set_option maxHeartbeats 4000000 in
theorem ctX0_isGone (l : Launch) : CI l yX0_isGone (ws_ yX0_isGone cX0_isGone 1 (some .boolean)) rmX0_isGone SX0_isGone := by
  refine mk_CI (by decide) ?_
  intro p e s m args below meth c G cy dC dI F hr hlk as M post hS
  unfold SX0_isGone at hS
  split at hS
  · rename_i t p0
    obtain ⟨rfl, hp, hS⟩ := hS
    refine ⟨by simp only [lk, wd, rm1, rm2, pick, popn, catS, pushO, aLV, cond_true, cond_false, Bool.not_true, Bool.not_false, Bool.and_true, Bool.and_false, Bool.true_and, Bool.false_and, eq_self, true_and, and_true, Nat.reduceBEq, Nat.reduceAdd, reduceIte, Nat.reduceEqDiff]; decide, sBX0_isGone_0 F hr hlk _ _ _ ?_⟩
    simp only [BX0_isGone_0, i_push, i_aload, i_cmp, i_getI, i_zret, lk, wd, rm1, rm2, pick, popn, catS, pushO, aLV, cond_true, cond_false, Bool.not_true, Bool.not_false, Bool.and_true, Bool.and_false, Bool.true_and, Bool.false_and, eq_self, true_and, and_true, Nat.reduceBEq, Nat.reduceAdd, reduceIte, Nat.reduceEqDiff]
    try simp only [tCnt, aK, aN, aR, eq_self, true_and, and_true, Nat.reduceLeDiff, Nat.reduceEqDiff]
    (repeat' (first | assumption | exact b2i_1 _ | apply And.intro | intro _)) <;> (first | assumption | decide | (simp_all [b2i]; done))
  · exact hS.elim
def SX0_isShelf : SP := fun as M post => match as with
  | [.inr (t, p0)] => t = 4 ∧ p0 < 30 ∧ post (some (.inl (.int (b2i (¬ M.1 4 p0 0 < 7))))) M
  | _ => False
abbrev rmX0_isShelf : Room := ({ frames := 0, cells := 0, slots := 0, locals := 0 } : Room)
def BX0_isShelf_0 (Qr : Option AV → MM → Prop) (lv : LV) (st : List AV) (M : MM) : Prop := (i_aload 0 (i_getI 4 0 (i_push (.inl (.int 7)) (i_cmp (fun a b => a < b) (i_push (.inl (.int 0)) (i_zret Qr)) (i_push (.inl (.int 1)) (i_zret Qr)))))) lv st M
set_option maxRecDepth 100000 in
set_option maxHeartbeats 4000000 in
theorem sBX0_isShelf_0 {p : Program} {l : Launch} {e : Env} {s : State} {m : MethodId} {args : Array Value} {below : List Frame} {meth : Method} {c : Code} {G : Nat → Nat → Nat} {cy dC : Nat → ClassId} {dI : Nat → Nat → Nat} {Qr : Option AV → MM → Prop} (F : FX p m c cX0_isShelf 1 RX0 s args (AW G) G cy dC dI) (hr : meth.sig.returnType = (some .boolean)) (hlk : meth.locks = false) : SO p l e rmX0_isShelf s m args below meth c 0 0 (MQ below (QI G cy dC dI Qr) args s 0 0 (AW G)) 1 (AW G) G cy dC dI 0 (BX0_isShelf_0 Qr) := by
  exact (s_aload_n F dX0_isShelf_0 rfl (s_getI F (ci := 0) dX0_isShelf_1 rfl in_X0 (by decide) q31 (fun _ _ _ _ => ⟨_, rfl, rfl⟩) (s_bipush F dX0_isShelf_4 (by decide) (s_icmp_lt F dX0_isShelf_6 (by decide) (s_iconst F dX0_isShelf_13 (by decide) (s_zret F dX0_isShelf_14 hr hlk)) (s_iconst F dX0_isShelf_9 (by decide) (s_goto F dX0_isShelf_10 (by decide) (s_zret F dX0_isShelf_14 hr hlk)))))))
set_option maxRecDepth 100000 in
set_option maxHeartbeats 4000000 in
theorem ctX0_isShelf (l : Launch) : CI l yX0_isShelf (ws_ yX0_isShelf cX0_isShelf 1 (some .boolean)) rmX0_isShelf SX0_isShelf := by
  refine mk_CI (by decide) ?_
  intro p e s m args below meth c G cy dC dI F hr hlk as M post hS
  unfold SX0_isShelf at hS
  split at hS
  · rename_i t p0
    obtain ⟨rfl, hp, hS⟩ := hS
    refine ⟨by simp only [lk, wd, rm1, rm2, pick, popn, catS, pushO, aLV, cond_true, cond_false, Bool.not_true, Bool.not_false, Bool.and_true, Bool.and_false, Bool.true_and, Bool.false_and, eq_self, true_and, and_true, Nat.reduceBEq, Nat.reduceAdd, reduceIte, Nat.reduceEqDiff]; decide, sBX0_isShelf_0 F hr hlk _ _ _ ?_⟩
    simp only [BX0_isShelf_0, i_push, i_aload, i_cmp, i_getI, i_zret, lk, wd, rm1, rm2, pick, popn, catS, pushO, aLV, cond_true, cond_false, Bool.not_true, Bool.not_false, Bool.and_true, Bool.and_false, Bool.true_and, Bool.false_and, eq_self, true_and, and_true, Nat.reduceBEq, Nat.reduceAdd, reduceIte, Nat.reduceEqDiff]
    try simp only [tCnt, aK, aN, aR, eq_self, true_and, and_true, Nat.reduceLeDiff, Nat.reduceEqDiff]
    (repeat' (first | assumption | exact b2i_1 _ | apply And.intro | intro _)) <;> (first | assumption | decide | (simp_all [b2i]; done))
  · exact hS.elim
def SX0_areReals : SP := fun as M post => match as with
  | [.inl (.int k)] => post (some (.inl (.int (b2i (isR k))))) M
  | _ => False
abbrev rmX0_areReals : Room := ({ frames := 0, cells := 0, slots := 0, locals := 0 } : Room)
def BX0_areReals_0 (Qr : Option AV → MM → Prop) (lv : LV) (st : List AV) (M : MM) : Prop := (i_iload 0 (i_push (.inl (.int 5)) (i_cmp (fun a b => a = b) (i_push (.inl (.int 1)) (i_zret Qr)) (i_iload 0 (i_push (.inl (.int 6)) (i_cmp (fun a b => a = b) (i_push (.inl (.int 1)) (i_zret Qr)) (i_push (.inl (.int 0)) (i_zret Qr)))))))) lv st M
set_option maxRecDepth 100000 in
set_option maxHeartbeats 4000000 in
theorem sBX0_areReals_0 {p : Program} {l : Launch} {e : Env} {s : State} {m : MethodId} {args : Array Value} {below : List Frame} {meth : Method} {c : Code} {G : Nat → Nat → Nat} {cy dC : Nat → ClassId} {dI : Nat → Nat → Nat} {Qr : Option AV → MM → Prop} (F : FX p m c cX0_areReals 1 RX0 s args (AW G) G cy dC dI) (hr : meth.sig.returnType = (some .boolean)) (hlk : meth.locks = false) : SO p l e rmX0_areReals s m args below meth c 0 0 (MQ below (QI G cy dC dI Qr) args s 0 0 (AW G)) 1 (AW G) G cy dC dI 0 (BX0_areReals_0 Qr) := by
  exact (s_iload_n F dX0_areReals_0 rfl (s_iconst F dX0_areReals_1 (by decide) (s_icmp_eq F dX0_areReals_2 (by decide) (s_iconst F dX0_areReals_11 (by decide) (s_goto F dX0_areReals_12 (by decide) (s_zret F dX0_areReals_16 hr hlk))) (s_iload_n F dX0_areReals_5 rfl (s_bipush F dX0_areReals_6 (by decide) (s_icmp_ne F dX0_areReals_8 (by decide) (s_iconst F dX0_areReals_15 (by decide) (s_zret F dX0_areReals_16 hr hlk)) (s_iconst F dX0_areReals_11 (by decide) (s_goto F dX0_areReals_12 (by decide) (s_zret F dX0_areReals_16 hr hlk)))))))))
set_option maxRecDepth 100000 in
set_option maxHeartbeats 4000000 in
theorem ctX0_areReals (l : Launch) : CI l yX0_areReals (ws_ yX0_areReals cX0_areReals 1 (some .boolean)) rmX0_areReals SX0_areReals := by
  refine mk_CI (by decide) ?_
  intro p e s m args below meth c G cy dC dI F hr hlk as M post hS
  unfold SX0_areReals at hS
  split at hS
  · refine ⟨by simp only [lk, wd, rm1, rm2, pick, popn, catS, pushO, aLV, cond_true, cond_false, Bool.not_true, Bool.not_false, Bool.and_true, Bool.and_false, Bool.true_and, Bool.false_and, eq_self, true_and, and_true, Nat.reduceBEq, Nat.reduceAdd, reduceIte, Nat.reduceEqDiff]; decide, sBX0_areReals_0 F hr hlk _ _ _ ?_⟩
    simp only [BX0_areReals_0, i_push, i_iload, i_cmp, i_zret, lk, wd, rm1, rm2, pick, popn, catS, pushO, aLV, cond_true, cond_false, Bool.not_true, Bool.not_false, Bool.and_true, Bool.and_false, Bool.true_and, Bool.false_and, eq_self, true_and, and_true, Nat.reduceBEq, Nat.reduceAdd, reduceIte, Nat.reduceEqDiff]
    try simp only [tCnt, aK, aN, aR, eq_self, true_and, and_true, Nat.reduceLeDiff, Nat.reduceEqDiff]
    (repeat' (first | assumption | exact b2i_1 _ | apply And.intro | intro _)) <;> (first | assumption | decide | (simp_all [b2i, isR]; done))
  · exact hS.elim
def SX0_isOfReals : SP := fun as M post => match as with
  | [.inr (t, p0)] => t = 4 ∧ p0 < 30 ∧ post (some (.inl (.int (b2i (isR (M.1 4 p0 0)))))) M
  | _ => False
abbrev rmX0_isOfReals : Room := ({ frames := 1, cells := 0, slots := 0, locals := 60 } : Room)
def BX0_isOfReals_0 (Qr : Option AV → MM → Prop) (lv : LV) (st : List AV) (M : MM) : Prop := (i_aload 0 (i_getI 4 0 (i_call 1 SX0_areReals (i_zret Qr)))) lv st M
set_option maxRecDepth 100000 in
set_option maxHeartbeats 4000000 in
theorem sBX0_isOfReals_0 {p : Program} {l : Launch} {e : Env} {s : State} {m : MethodId} {args : Array Value} {below : List Frame} {meth : Method} {c : Code} {G : Nat → Nat → Nat} {cy dC : Nat → ClassId} {dI : Nat → Nat → Nat} {Qr : Option AV → MM → Prop} (F : FX p m c cX0_isOfReals 1 RX0 s args (AW G) G cy dC dI) (hr : meth.sig.returnType = (some .boolean)) (hlk : meth.locks = false) : SO p l e rmX0_isOfReals s m args below meth c 0 0 (MQ below (QI G cy dC dI Qr) args s 0 0 (AW G)) 1 (AW G) G cy dC dI 0 (BX0_isOfReals_0 Qr) := by
  exact (s_aload_n F dX0_isOfReals_0 rfl (s_getI F (ci := 0) dX0_isOfReals_1 rfl in_X0 (by decide) q31 (fun _ _ _ _ => ⟨_, rfl, rfl⟩) (s_callSi F dX0_isOfReals_4 (ctX0_areReals l) (lw_S q180 q181 q2 q182) ⟨rfl, rfl⟩ (by decide +kernel) (by decide) ⟨Nat.zero_le _, Nat.zero_le _⟩ (s_zret F dX0_isOfReals_7 hr hlk))))
set_option maxRecDepth 100000 in
set_option maxHeartbeats 4000000 in
theorem ctX0_isOfReals (l : Launch) : CI l yX0_isOfReals (ws_ yX0_isOfReals cX0_isOfReals 1 (some .boolean)) rmX0_isOfReals SX0_isOfReals := by
  refine mk_CI (by decide) ?_
  intro p e s m args below meth c G cy dC dI F hr hlk as M post hS
  unfold SX0_isOfReals at hS
  split at hS
  · rename_i t p0
    obtain ⟨rfl, hp, hS⟩ := hS
    refine ⟨by simp only [lk, wd, rm1, rm2, pick, popn, catS, pushO, aLV, cond_true, cond_false, Bool.not_true, Bool.not_false, Bool.and_true, Bool.and_false, Bool.true_and, Bool.false_and, eq_self, true_and, and_true, Nat.reduceBEq, Nat.reduceAdd, reduceIte, Nat.reduceEqDiff]; decide, sBX0_isOfReals_0 F hr hlk _ _ _ ?_⟩
    simp only [BX0_isOfReals_0, i_aload, i_getI, i_call, i_zret, lk, wd, rm1, rm2, pick, popn, catS, pushO, aLV, cond_true, cond_false, Bool.not_true, Bool.not_false, Bool.and_true, Bool.and_false, Bool.true_and, Bool.false_and, eq_self, true_and, and_true, Nat.reduceBEq, Nat.reduceAdd, reduceIte, Nat.reduceEqDiff, SX0_areReals]
    try simp only [tCnt, aK, aN, aR, eq_self, true_and, and_true, Nat.reduceLeDiff, Nat.reduceEqDiff]
    exact ⟨hp, b2i_1 _, hS⟩
  · exact hS.elim
def SX0_hasCell : SP := fun as M post => match as with
  | [.inr (t, p0), .inl (.int i)] => t = 4 ∧ p0 < 30 ∧ post (some (.inl (.int (b2i (inC M p0 i = true))))) M
  | _ => False
abbrev rmX0_hasCell : Room := ({ frames := 0, cells := 0, slots := 0, locals := 0 } : Room)
def BX0_hasCell_0 (Qr : Option AV → MM → Prop) (lv : LV) (st : List AV) (M : MM) : Prop := (i_iload 1 (i_if (fun a => a < 0) (i_push (.inl (.int 0)) (i_zret Qr)) (i_iload 1 (i_aload 0 (i_getI 4 1 (i_cmp (fun a b => a < b) (i_push (.inl (.int 1)) (i_zret Qr)) (i_push (.inl (.int 0)) (i_zret Qr)))))))) lv st M
set_option maxRecDepth 100000 in
set_option maxHeartbeats 4000000 in
theorem sBX0_hasCell_0 {p : Program} {l : Launch} {e : Env} {s : State} {m : MethodId} {args : Array Value} {below : List Frame} {meth : Method} {c : Code} {G : Nat → Nat → Nat} {cy dC : Nat → ClassId} {dI : Nat → Nat → Nat} {Qr : Option AV → MM → Prop} (F : FX p m c cX0_hasCell 2 RX0 s args (AW G) G cy dC dI) (hr : meth.sig.returnType = (some .boolean)) (hlk : meth.locks = false) : SO p l e rmX0_hasCell s m args below meth c 0 0 (MQ below (QI G cy dC dI Qr) args s 0 0 (AW G)) 2 (AW G) G cy dC dI 0 (BX0_hasCell_0 Qr) := by
  exact (s_iload_n F dX0_hasCell_0 rfl (s_if_lt F dX0_hasCell_1 (by decide) (s_iconst F dX0_hasCell_16 (by decide) (s_zret F dX0_hasCell_17 hr hlk)) (s_iload_n F dX0_hasCell_4 rfl (s_aload_n F dX0_hasCell_5 rfl (s_getI F (ci := 0) dX0_hasCell_6 rfl in_X0 (by decide) q33 (fun _ _ _ _ => ⟨_, rfl, rfl⟩) (s_icmp_ge F dX0_hasCell_9 (by decide) (s_iconst F dX0_hasCell_16 (by decide) (s_zret F dX0_hasCell_17 hr hlk)) (s_iconst F dX0_hasCell_12 (by decide) (s_goto F dX0_hasCell_13 (by decide) (s_zret F dX0_hasCell_17 hr hlk)))))))))
set_option maxRecDepth 100000 in
set_option maxHeartbeats 4000000 in
theorem ctX0_hasCell (l : Launch) : CI l yX0_hasCell (ws_ yX0_hasCell cX0_hasCell 2 (some .boolean)) rmX0_hasCell SX0_hasCell := by
  refine mk_CI (by decide) ?_
  intro p e s m args below meth c G cy dC dI F hr hlk as M post hS
  unfold SX0_hasCell at hS
  split at hS
  · rename_i t p0 i
    obtain ⟨rfl, hp, hS⟩ := hS
    refine ⟨by simp only [lk, wd, rm1, rm2, pick, popn, catS, pushO, aLV, cond_true, cond_false, Bool.not_true, Bool.not_false, Bool.and_true, Bool.and_false, Bool.true_and, Bool.false_and, eq_self, true_and, and_true, Nat.reduceBEq, Nat.reduceAdd, reduceIte, Nat.reduceEqDiff]; decide, sBX0_hasCell_0 F hr hlk _ _ _ ?_⟩
    simp only [BX0_hasCell_0, i_push, i_iload, i_aload, i_if, i_cmp, i_getI, i_zret, lk, wd, rm1, rm2, pick, popn, catS, pushO, aLV, cond_true, cond_false, Bool.not_true, Bool.not_false, Bool.and_true, Bool.and_false, Bool.true_and, Bool.false_and, eq_self, true_and, and_true, Nat.reduceBEq, Nat.reduceAdd, reduceIte, Nat.reduceEqDiff]
    try simp only [tCnt, aK, aN, aR, eq_self, true_and, and_true, Nat.reduceLeDiff, Nat.reduceEqDiff]
    (repeat' (first | assumption | exact b2i_1 _ | apply And.intro | intro _)) <;> (first | assumption | decide | (simpa [inC, b2i, *] using hS) | (simp_all [b2i, inC, b2i]; done))
  · exact hS.elim
def SX0_hasCells : SP := fun as M post => match as with
  | [.inr (t, p0), .inl (.int a), .inl (.int n)] => t = 4 ∧ p0 < 30 ∧ post (some (.inl (.int (b2i (hC M p0 a n = true))))) M
  | _ => False
abbrev rmX0_hasCells : Room := ({ frames := 0, cells := 0, slots := 0, locals := 0 } : Room)
def BX0_hasCells_0 (Qr : Option AV → MM → Prop) (lv : LV) (st : List AV) (M : MM) : Prop := (i_iload 1 (i_if (fun a => a < 0) (i_push (.inl (.int 0)) (i_zret Qr)) (i_iload 2 (i_if (fun a => a < 0) (i_push (.inl (.int 0)) (i_zret Qr)) (i_iload 2 (i_aload 0 (i_getI 4 1 (i_iload 1 (i_II (fun a b => a - b) (i_cmp (fun a b => b < a) (i_push (.inl (.int 0)) (i_zret Qr)) (i_push (.inl (.int 1)) (i_zret Qr)))))))))))) lv st M
set_option maxRecDepth 100000 in
set_option maxHeartbeats 4000000 in
theorem sBX0_hasCells_0 {p : Program} {l : Launch} {e : Env} {s : State} {m : MethodId} {args : Array Value} {below : List Frame} {meth : Method} {c : Code} {G : Nat → Nat → Nat} {cy dC : Nat → ClassId} {dI : Nat → Nat → Nat} {Qr : Option AV → MM → Prop} (F : FX p m c cX0_hasCells 3 RX0 s args (AW G) G cy dC dI) (hr : meth.sig.returnType = (some .boolean)) (hlk : meth.locks = false) : SO p l e rmX0_hasCells s m args below meth c 0 0 (MQ below (QI G cy dC dI Qr) args s 0 0 (AW G)) 3 (AW G) G cy dC dI 0 (BX0_hasCells_0 Qr) := by
  exact (s_iload_n F dX0_hasCells_0 rfl (s_if_lt F dX0_hasCells_1 (by decide) (s_iconst F dX0_hasCells_22 (by decide) (s_zret F dX0_hasCells_23 hr hlk)) (s_iload_n F dX0_hasCells_4 rfl (s_if_lt F dX0_hasCells_5 (by decide) (s_iconst F dX0_hasCells_22 (by decide) (s_zret F dX0_hasCells_23 hr hlk)) (s_iload_n F dX0_hasCells_8 rfl (s_aload_n F dX0_hasCells_9 rfl (s_getI F (ci := 0) dX0_hasCells_10 rfl in_X0 (by decide) q33 (fun _ _ _ _ => ⟨_, rfl, rfl⟩) (s_iload_n F dX0_hasCells_13 rfl (s_isub F dX0_hasCells_14 (s_icmp_gt F dX0_hasCells_15 (by decide) (s_iconst F dX0_hasCells_22 (by decide) (s_zret F dX0_hasCells_23 hr hlk)) (s_iconst F dX0_hasCells_18 (by decide) (s_goto F dX0_hasCells_19 (by decide) (s_zret F dX0_hasCells_23 hr hlk)))))))))))))
set_option maxRecDepth 100000 in
set_option maxHeartbeats 4000000 in
theorem ctX0_hasCells (l : Launch) : CI l yX0_hasCells (ws_ yX0_hasCells cX0_hasCells 3 (some .boolean)) rmX0_hasCells SX0_hasCells := by
  refine mk_CI (by decide) ?_
  intro p e s m args below meth c G cy dC dI F hr hlk as M post hS
  unfold SX0_hasCells at hS
  split at hS
  · rename_i t p0 a n
    obtain ⟨rfl, hp, hS⟩ := hS
    refine ⟨by simp only [lk, wd, rm1, rm2, pick, popn, catS, pushO, aLV, cond_true, cond_false, Bool.not_true, Bool.not_false, Bool.and_true, Bool.and_false, Bool.true_and, Bool.false_and, eq_self, true_and, and_true, Nat.reduceBEq, Nat.reduceAdd, reduceIte, Nat.reduceEqDiff]; decide, sBX0_hasCells_0 F hr hlk _ _ _ ?_⟩
    simp only [BX0_hasCells_0, i_push, i_iload, i_aload, i_II, i_if, i_cmp, i_getI, i_zret, lk, wd, rm1, rm2, pick, popn, catS, pushO, aLV, cond_true, cond_false, Bool.not_true, Bool.not_false, Bool.and_true, Bool.and_false, Bool.true_and, Bool.false_and, eq_self, true_and, and_true, Nat.reduceBEq, Nat.reduceAdd, reduceIte, Nat.reduceEqDiff]
    try simp only [tCnt, aK, aN, aR, eq_self, true_and, and_true, Nat.reduceLeDiff, Nat.reduceEqDiff]
    (repeat' (first | assumption | exact b2i_1 _ | apply And.intro | intro _)) <;> (first | assumption | decide | (simpa [hC, b2i, *] using hS) | (simp_all [b2i, hC, b2i]; done))
  · exact hS.elim
def SX0_letGo : SP := fun as M post => match as with
  | [.inr (t, p0)] => t = 4 ∧ p0 < 30 ∧ post none (sI M 4 p0 1 (-1))
  | _ => False
abbrev rmX0_letGo : Room := ({ frames := 0, cells := 0, slots := 0, locals := 0 } : Room)
def BX0_letGo_0 (Qr : Option AV → MM → Prop) (lv : LV) (st : List AV) (M : MM) : Prop := (i_aload 0 (i_push (.inl (.int (-1))) (i_putI 4 1 (i_vret Qr)))) lv st M
set_option maxRecDepth 100000 in
set_option maxHeartbeats 4000000 in
theorem sBX0_letGo_0 {p : Program} {l : Launch} {e : Env} {s : State} {m : MethodId} {args : Array Value} {below : List Frame} {meth : Method} {c : Code} {G : Nat → Nat → Nat} {cy dC : Nat → ClassId} {dI : Nat → Nat → Nat} {Qr : Option AV → MM → Prop} (F : FX p m c cX0_letGo 1 RX0 s args (AW G) G cy dC dI) (hr : meth.sig.returnType = none) (hlk : meth.locks = false) : SO p l e rmX0_letGo s m args below meth c 0 0 (MQ below (QV G cy dC dI Qr) args s 0 0 (AW G)) 1 (AW G) G cy dC dI 0 (BX0_letGo_0 Qr) := by
  exact (s_aload_n F dX0_letGo_0 rfl (s_iconst F dX0_letGo_1 (by decide) (s_putI F (ci := 0) dX0_letGo_2 rfl in_X0 tyX0 tyX0_ok nmX0 (by decide) q33 rfl (by decide +kernel) (fun _ _ _ _ _ => ⟨_, rfl, Nat.le_of_ble_eq_true rfl, rfl⟩) (s_vret F dX0_letGo_5 hr hlk))))
set_option maxRecDepth 100000 in
set_option maxHeartbeats 4000000 in
theorem ctX0_letGo (l : Launch) : CV l yX0_letGo (ws_ yX0_letGo cX0_letGo 1 none) rmX0_letGo SX0_letGo := by
  refine mk_CV (by decide) ?_
  intro p e s m args below meth c G cy dC dI F hr hlk as M post hS
  unfold SX0_letGo at hS
  split at hS
  · rename_i t p0
    obtain ⟨rfl, hp, hS⟩ := hS
    refine ⟨by simp only [lk, wd, rm1, rm2, pick, popn, catS, pushO, aLV, cond_true, cond_false, Bool.not_true, Bool.not_false, Bool.and_true, Bool.and_false, Bool.true_and, Bool.false_and, eq_self, true_and, and_true, Nat.reduceBEq, Nat.reduceAdd, reduceIte, Nat.reduceEqDiff]; decide, sBX0_letGo_0 F hr hlk _ _ _ ?_⟩
    simp only [BX0_letGo_0, i_push, i_aload, i_putI, i_vret, lk, wd, rm1, rm2, pick, popn, catS, pushO, aLV, cond_true, cond_false, Bool.not_true, Bool.not_false, Bool.and_true, Bool.and_false, Bool.true_and, Bool.false_and, eq_self, true_and, and_true, Nat.reduceBEq, Nat.reduceAdd, reduceIte, Nat.reduceEqDiff]
    try simp only [tCnt, aK, aN, aR, eq_self, true_and, and_true, Nat.reduceLeDiff, Nat.reduceEqDiff]
    (repeat' (first | assumption | exact b2i_1 _ | apply And.intro | intro _)) <;> (first | assumption | decide | (simp_all [b2i]; done))
  · exact hS.elim
def SX0_end : SP := fun as M post => match as with
  | [.inr (t, p0)] => t = 4 ∧ p0 < 30 ∧ post none (sI (sI M 4 p0 0 (-1)) 4 p0 1 (-1))
  | _ => False
abbrev rmX0_end : Room := ({ frames := 0, cells := 0, slots := 0, locals := 0 } : Room)
def BX0_end_0 (Qr : Option AV → MM → Prop) (lv : LV) (st : List AV) (M : MM) : Prop := (i_aload 0 (i_push (.inl (.int (-1))) (i_putI 4 0 (i_aload 0 (i_push (.inl (.int (-1))) (i_putI 4 1 (i_vret Qr))))))) lv st M
set_option maxRecDepth 100000 in
set_option maxHeartbeats 4000000 in
theorem sBX0_end_0 {p : Program} {l : Launch} {e : Env} {s : State} {m : MethodId} {args : Array Value} {below : List Frame} {meth : Method} {c : Code} {G : Nat → Nat → Nat} {cy dC : Nat → ClassId} {dI : Nat → Nat → Nat} {Qr : Option AV → MM → Prop} (F : FX p m c cX0_end 1 RX0 s args (AW G) G cy dC dI) (hr : meth.sig.returnType = none) (hlk : meth.locks = false) : SO p l e rmX0_end s m args below meth c 0 0 (MQ below (QV G cy dC dI Qr) args s 0 0 (AW G)) 1 (AW G) G cy dC dI 0 (BX0_end_0 Qr) := by
  exact (s_aload_n F dX0_end_0 rfl (s_iconst F dX0_end_1 (by decide) (s_putI F (ci := 0) dX0_end_2 rfl in_X0 tyX0 tyX0_ok nmX0 (by decide) q31 rfl (by decide +kernel) (fun _ _ _ _ _ => ⟨_, rfl, Nat.le_of_ble_eq_true rfl, rfl⟩) (s_aload_n F dX0_end_5 rfl (s_iconst F dX0_end_6 (by decide) (s_putI F (ci := 0) dX0_end_7 rfl in_X0 tyX0 tyX0_ok nmX0 (by decide) q33 rfl (by decide +kernel) (fun _ _ _ _ _ => ⟨_, rfl, Nat.le_of_ble_eq_true rfl, rfl⟩) (s_vret F dX0_end_10 hr hlk)))))))
set_option maxRecDepth 100000 in
set_option maxHeartbeats 4000000 in
theorem ctX0_end (l : Launch) : CV l yX0_end (ws_ yX0_end cX0_end 1 none) rmX0_end SX0_end := by
  refine mk_CV (by decide) ?_
  intro p e s m args below meth c G cy dC dI F hr hlk as M post hS
  unfold SX0_end at hS
  split at hS
  · rename_i t p0
    obtain ⟨rfl, hp, hS⟩ := hS
    refine ⟨by simp only [lk, wd, rm1, rm2, pick, popn, catS, pushO, aLV, cond_true, cond_false, Bool.not_true, Bool.not_false, Bool.and_true, Bool.and_false, Bool.true_and, Bool.false_and, eq_self, true_and, and_true, Nat.reduceBEq, Nat.reduceAdd, reduceIte, Nat.reduceEqDiff]; decide, sBX0_end_0 F hr hlk _ _ _ ?_⟩
    simp only [BX0_end_0, i_push, i_aload, i_putI, i_vret, lk, wd, rm1, rm2, pick, popn, catS, pushO, aLV, cond_true, cond_false, Bool.not_true, Bool.not_false, Bool.and_true, Bool.and_false, Bool.true_and, Bool.false_and, eq_self, true_and, and_true, Nat.reduceBEq, Nat.reduceAdd, reduceIte, Nat.reduceEqDiff]
    try simp only [tCnt, aK, aN, aR, eq_self, true_and, and_true, Nat.reduceLeDiff, Nat.reduceEqDiff]
    (repeat' (first | assumption | exact b2i_1 _ | apply And.intro | intro _)) <;> (first | assumption | decide | (simp_all [b2i]; done))
  · exact hS.elim
def SX0_heldPart : SP := fun as M post => match as with
  | [.inr (t, p0), .inl (.int i)] => t = 4 ∧ p0 < 30 ∧ vp_in i 40 ∧ post (some (.inl (.int (M.2.1 6 p0 i.toNatClampNeg).toInt32))) M
  | _ => False
abbrev rmX0_heldPart : Room := ({ frames := 0, cells := 0, slots := 0, locals := 0 } : Room)
def BX0_heldPart_0 (Qr : Option AV → MM → Prop) (lv : LV) (st : List AV) (M : MM) : Prop := (i_aload 0 (i_getR 4 6 (fun i => i) (i_iload 1 (i_lald (i_L (fun a => .inl (.int a.toInt32)) (i_iret Qr)))))) lv st M
set_option maxRecDepth 100000 in
set_option maxHeartbeats 4000000 in
theorem sBX0_heldPart_0 {p : Program} {l : Launch} {e : Env} {s : State} {m : MethodId} {args : Array Value} {below : List Frame} {meth : Method} {c : Code} {G : Nat → Nat → Nat} {cy dC : Nat → ClassId} {dI : Nat → Nat → Nat} {Qr : Option AV → MM → Prop} (F : FX p m c cX0_heldPart 2 RX0 s args (AW G) G cy dC dI) (hr : meth.sig.returnType = (some .int)) (hlk : meth.locks = false) : SO p l e rmX0_heldPart s m args below meth c 0 0 (MQ below (QI G cy dC dI Qr) args s 0 0 (AW G)) 2 (AW G) G cy dC dI 0 (BX0_heldPart_0 Qr) := by
  exact (s_aload_n F dX0_heldPart_0 rfl (s_getR F (ci := 0) (f := 2) dX0_heldPart_1 rfl in_X0 (by decide) q35 (fun _ _ _ _ => ⟨_, rfl, rfl⟩) (s_iload_n F dX0_heldPart_4 rfl (s_lald F dX0_heldPart_5 (s_l2i F dX0_heldPart_6 (s_iret F dX0_heldPart_7 hr hlk))))))
set_option maxRecDepth 100000 in
set_option maxHeartbeats 4000000 in
theorem ctX0_heldPart (l : Launch) : CI l yX0_heldPart (ws_ yX0_heldPart cX0_heldPart 2 (some .int)) rmX0_heldPart SX0_heldPart := by
  refine mk_CI (by decide) ?_
  intro p e s m args below meth c G cy dC dI F hr hlk as M post hS
  unfold SX0_heldPart at hS
  split at hS
  · rename_i t p0 i
    obtain ⟨rfl, hp, hi, hS⟩ := hS
    refine ⟨by simp only [lk, wd, rm1, rm2, pick, popn, catS, pushO, aLV, cond_true, cond_false, Bool.not_true, Bool.not_false, Bool.and_true, Bool.and_false, Bool.true_and, Bool.false_and, eq_self, true_and, and_true, Nat.reduceBEq, Nat.reduceAdd, reduceIte, Nat.reduceEqDiff]; decide, sBX0_heldPart_0 F hr hlk _ _ _ ?_⟩
    simp only [BX0_heldPart_0, i_iload, i_aload, i_L, i_getR, i_lald, i_iret, lk, wd, rm1, rm2, pick, popn, catS, pushO, aLV, cond_true, cond_false, Bool.not_true, Bool.not_false, Bool.and_true, Bool.and_false, Bool.true_and, Bool.false_and, eq_self, true_and, and_true, Nat.reduceBEq, Nat.reduceAdd, reduceIte, Nat.reduceEqDiff]
    try simp only [tCnt, aK, aN, aR, eq_self, true_and, and_true, Nat.reduceLeDiff, Nat.reduceEqDiff]
    (repeat' (first | assumption | exact b2i_1 _ | apply And.intro | intro _)) <;> (first | assumption | decide | (simp_all [b2i]; done))
  · exact hS.elim
def SX0_holdPart : SP := fun as M post => match as with
  | [.inr (t, p0), .inl (.int i), .inl (.int n)] => t = 4 ∧ p0 < 30 ∧ vp_in i 40 ∧ post none (sL M 6 p0 i.toNatClampNeg n.toInt64)
  | _ => False
abbrev rmX0_holdPart : Room := ({ frames := 0, cells := 0, slots := 0, locals := 0 } : Room)
def BX0_holdPart_0 (Qr : Option AV → MM → Prop) (lv : LV) (st : List AV) (M : MM) : Prop := (i_aload 0 (i_getR 4 6 (fun i => i) (i_iload 1 (i_iload 2 (i_I (fun a => .inl (.long a.toInt64)) (i_last (i_vret Qr))))))) lv st M
set_option maxRecDepth 100000 in
set_option maxHeartbeats 4000000 in
theorem sBX0_holdPart_0 {p : Program} {l : Launch} {e : Env} {s : State} {m : MethodId} {args : Array Value} {below : List Frame} {meth : Method} {c : Code} {G : Nat → Nat → Nat} {cy dC : Nat → ClassId} {dI : Nat → Nat → Nat} {Qr : Option AV → MM → Prop} (F : FX p m c cX0_holdPart 3 RX0 s args (AW G) G cy dC dI) (hr : meth.sig.returnType = none) (hlk : meth.locks = false) : SO p l e rmX0_holdPart s m args below meth c 0 0 (MQ below (QV G cy dC dI Qr) args s 0 0 (AW G)) 3 (AW G) G cy dC dI 0 (BX0_holdPart_0 Qr) := by
  exact (s_aload_n F dX0_holdPart_0 rfl (s_getR F (ci := 0) (f := 2) dX0_holdPart_1 rfl in_X0 (by decide) q35 (fun _ _ _ _ => ⟨_, rfl, rfl⟩) (s_iload_n F dX0_holdPart_4 rfl (s_iload_n F dX0_holdPart_5 rfl (s_i2l F dX0_holdPart_6 (s_last F dX0_holdPart_7 (s_vret F dX0_holdPart_8 hr hlk)))))))
set_option maxRecDepth 100000 in
set_option maxHeartbeats 4000000 in
theorem ctX0_holdPart (l : Launch) : CV l yX0_holdPart (ws_ yX0_holdPart cX0_holdPart 3 none) rmX0_holdPart SX0_holdPart := by
  refine mk_CV (by decide) ?_
  intro p e s m args below meth c G cy dC dI F hr hlk as M post hS
  unfold SX0_holdPart at hS
  split at hS
  · rename_i t p0 i n
    obtain ⟨rfl, hp, hi, hS⟩ := hS
    refine ⟨by simp only [lk, wd, rm1, rm2, pick, popn, catS, pushO, aLV, cond_true, cond_false, Bool.not_true, Bool.not_false, Bool.and_true, Bool.and_false, Bool.true_and, Bool.false_and, eq_self, true_and, and_true, Nat.reduceBEq, Nat.reduceAdd, reduceIte, Nat.reduceEqDiff]; decide, sBX0_holdPart_0 F hr hlk _ _ _ ?_⟩
    simp only [BX0_holdPart_0, i_iload, i_aload, i_I, i_getR, i_last, i_vret, lk, wd, rm1, rm2, pick, popn, catS, pushO, aLV, cond_true, cond_false, Bool.not_true, Bool.not_false, Bool.and_true, Bool.and_false, Bool.true_and, Bool.false_and, eq_self, true_and, and_true, Nat.reduceBEq, Nat.reduceAdd, reduceIte, Nat.reduceEqDiff]
    try simp only [tCnt, aK, aN, aR, eq_self, true_and, and_true, Nat.reduceLeDiff, Nat.reduceEqDiff]
    (repeat' (first | assumption | exact b2i_1 _ | apply And.intro | intro _)) <;> (first | assumption | decide | (simp_all [b2i]; done))
  · exact hS.elim
