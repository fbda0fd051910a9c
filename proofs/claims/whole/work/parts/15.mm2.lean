theorem way0 {M : MM} {p i b : Int32} (hX : XOK M) (h : x_way M p i b = 0) : isPl p = true ∧ ¬ M.1 4 (cl p) 0 = -1 ∧ b2i (¬ M.1 4 (cl p) 0 < 7) = b ∧ ¬ M.1 4 (cl p) 1 = -1 ∧ inC M (cl p) i = true ∧ vp_in p 24 ∧ cl p < 30 ∧ vp_in i 40 := by
  unfold x_way at h
  split at h
  · exact absurd h (by decide)
  · rename_i h1
    have h1 : isPl p = true := by simpa using h1
    split at h
    · exact absurd h (by decide)
    · rename_i h2
      split at h
      · exact absurd h (by decide)
      · rename_i h3
        split at h
        · exact absurd h (by decide)
        · rename_i h4
          split at h
          · rename_i h5
            have hl : cl p < 30 := Nat.lt_trans (isPl_in h1).2 (by decide)
            exact ⟨h1, h2, Decidable.not_not.mp h3, h4, h5, (isPl_in h1).1, hl, (has_in (hX.1 _ hl) h5).1⟩
          · exact absurd h (by decide)
def x_put (M : MM) (p i : Int32) (v : Int64) : Int32 × MM := if x_way M p i 0 = 0 then (1, c_set M (cl p) (cl i) v) else (x_way M p i 0, M)
def x_sum (M : MM) (p k : Int32) : Int32 := if isPl p = false ∨ isKN k = false then -1 else if M.1 4 (cl p) 0 = -1 then -11 else if ¬ M.1 4 (cl p) 0 = k then -15 else if M.1 4 (cl p) 1 = -1 then -11 else bx_sum (fun j => (xT M (cl p) j).toInt32) (cnt M (cl p))
def x_turn (M : MM) (p k : Int32) : Int32 × MM := if isPl p = false ∨ isKN k = false then (-1, M) else if M.1 4 (cl p) 0 = -1 then (-11, M) else if ¬ M.1 4 (cl p) 0 < 7 then (-13, M) else if M.1 4 (cl p) 1 = -1 then (-11, M) else if nI (fst0 (fun i => xF M (cl p) i k) (cnt M (cl p))) < M.1 4 (cl p) 1 then (-20 - nI (fst0 (fun i => xF M (cl p) i k) (cnt M (cl p))), M) else (1, sI (c_turn M (cl p) (cnt M (cl p)) k) 4 (cl p) 0 k)
def x_part (M : MM) (z w : Int32) : Int32 × MM := if z < 0 ∨ 2 < z ∨ w < 0 ∨ 1000 < w then (-1, M) else if ¬ M.1 0 0 3 < 40 then (-2, M) else (M.1 0 0 3, sI (sI (sI M 5 (cl (M.1 0 0 3)) 0 z) 5 (cl (M.1 0 0 3)) 1 w) 0 0 3 (M.1 0 0 3 + 1))
def xFor (M : MM) (p : Nat) (j : Int32) : Bool := !isPt M j || forS (M.1 4 p 0) (M.1 5 (cl j) 0)
def x_lay (M : MM) (p i j : Int32) : Int32 × MM := if isPl p = false ∨ ¬ j = -1 ∧ isPt M j = false then (-1, M) else if ¬ x_way M p i 1 = 0 then (x_way M p i 1, M) else if xFor M (cl p) j = false then (-14, M) else if isPt M j = true then (1, sI (sL M 6 (cl p) (cl i) j.toInt64) 5 (cl j) 2 (M.1 5 (cl j) 2 + 1)) else (1, sL M 6 (cl p) (cl i) j.toInt64)
def x_pla (M : MM) (p i : Int32) : Int32 := if ¬ x_way M p i 1 = 0 then x_way M p i 1 else if isPt M (M.2.1 6 (cl p) (cl i)).toInt32 = true then (M.2.1 6 (cl p) (cl i)).toInt32 else -11
def x_weigh (M : MM) (p i : Int32) : Int32 := if isPt M (x_pla M p i) = true then pW M (cl (x_pla M p i)) else x_pla M p i
def x_rigid (M : MM) (p i : Int32) : Int32 := if isPt M (x_pla M p i) = false then x_pla M p i else if M.1 5 (cl (x_pla M p i)) 0 = 1 then M.1 5 (cl (x_pla M p i)) 2 else -15
def x_fault (M : MM) (j c : Int32) : Int32 × MM := if isPt M j = false ∨ c < -1 ∨ 9 < c then (-1, M) else (1, sI M 5 (cl j) 3 c)
def x_raise (M : MM) (p i : Int32) : Int32 := if isPt M (x_pla M p i) = false then x_pla M p i else if M.1 5 (cl (x_pla M p i)) 3 = -1 then -11 else -30 - M.1 5 (cl (x_pla M p i)) 3
def x_like (M : MM) (a b : Int32) : Int32 := if isPl a = false ∨ isPl b = false then -1 else if M.1 4 (cl a) 1 = -1 ∨ M.1 4 (cl b) 1 = -1 then -11 else b2i (M.1 4 (cl a) 0 = M.1 4 (cl b) 0 ∧ M.1 4 (cl a) 1 = M.1 4 (cl b) 1 ∧ fst0 (xE M (cl a) (cl b)) (cnt M (cl a)) = cnt M (cl a))
theorem pc_in {M : MM} (hX : XOK M) (h : M.1 0 0 3 < 40) : vp_in (M.1 0 0 3) 40 ∧ cl (M.1 0 0 3) < 40 := by
  obtain ⟨n, hn, e⟩ := hX.2.2
  rw [e] at h ⊢
  have := (nI_ltI (a := n) (b := 40) (by omega) (by omega)).mp h
  exact ⟨vin (by omega) (by omega), by unfold cl; rw [ncl (by omega)]; exact this⟩

def SX2_put : SP := fun as M post => match as with
  | [.inr (t, i0), .inl (.int p0), .inl (.int i), .inl (.long v)] => t = 0 ∧ i0 = 0 ∧ XOK M ∧ post (some (.inl (.int (x_put M p0 i v).1))) (x_put M p0 i v).2
  | _ => False
abbrev rmX2_put : Room := ({ frames := 2, cells := 0, slots := 0, locals := 120 } : Room)
def BX2_put_0 (Qr : Option AV → MM → Prop) (lv : LV) (st : List AV) (M : MM) : Prop := (i_aload 0 (i_iload 1 (i_iload 2 (i_push (.inl (.int 0)) (i_callV 3 0 SX2_inWayOfCell (i_istore 5 (i_iload 5 (i_if (fun a => a = 0) (i_aload 0 (i_getR 0 1 (fun _ => 0) (i_iload 1 (i_aald (i_iload 2 (i_lload 3 (i_callV 2 4 SX0_setNumber (i_push (.inl (.int 1)) (i_iret Qr))))))))) (i_iload 5 (i_iret Qr)))))))))) lv st M
set_option maxRecDepth 100000 in
set_option maxHeartbeats 4000000 in
theorem sBX2_put_0 {p : Program} {l : Launch} {e : Env} {s : State} {m : MethodId} {args : Array Value} {below : List Frame} {meth : Method} {c : Code} {G : Nat → Nat → Nat} {cy dC : Nat → ClassId} {dI : Nat → Nat → Nat} {Qr : Option AV → MM → Prop} (F : FX p m c cX2_put 6 RX2 s args (AW G) G cy dC dI) (hr : meth.sig.returnType = (some .int)) (hlk : meth.locks = false) : SO p l e rmX2_put s m args below meth c 0 0 (MQ below (QI G cy dC dI Qr) args s 0 0 (AW G)) 6 (AW G) G cy dC dI 0 (BX2_put_0 Qr) := by
  exact (s_aload_n F dX2_put_0 rfl (s_iload_n F dX2_put_1 rfl (s_iload_n F dX2_put_2 rfl (s_iconst F dX2_put_3 (by decide) (s_callVi F dX2_put_4 (ctX2_inWayOfCell l) (lw_V q143 q145 qs0 q1 q146) ⟨rfl, rfl⟩ (by decide +kernel) (by decide) ⟨Nat.zero_le _, Nat.zero_le _⟩ (ci := 2) rfl (fun _ _ _ _ => ⟨_, rfl⟩) (s_istore F dX2_put_7 (by decide) (s_iload F dX2_put_9 (s_if_eq F dX2_put_11 (by decide) (s_aload_n F dX2_put_17 rfl (s_getR F (ci := 2) (f := 0) dX2_put_18 rfl in_X2 (by decide) q69 (fun _ _ _ _ => ⟨_, rfl, rfl⟩) (s_iload_n F dX2_put_21 rfl (s_aald F dX2_put_22 (s_iload_n F dX2_put_23 rfl (s_lload_n F dX2_put_24 rfl (s_callVv F dX2_put_25 (ctX0_setNumber l) (lw_V q152 q153 q154 q2 q155) ⟨rfl, rfl⟩ (by decide +kernel) (by decide) ⟨Nat.zero_le _, Nat.zero_le _⟩ (ci := 0) rfl (fun _ _ _ _ => ⟨_, rfl⟩) (s_iconst F dX2_put_28 (by decide) (s_iret F dX2_put_29 hr hlk))))))))) (s_iload F dX2_put_14 (s_iret F dX2_put_16 hr hlk))))))))))
set_option maxRecDepth 100000 in
set_option maxHeartbeats 4000000 in
theorem ctX2_put (l : Launch) : CI l yX2_put (ws_ yX2_put cX2_put 6 (some .int)) rmX2_put SX2_put := by
  refine mk_CI (by decide) ?_
  intro p e s m args below meth c G cy dC dI F hr hlk as M post hS
  unfold SX2_put at hS
  split at hS
  · rename_i t i0 p0 i v
    obtain ⟨rfl, rfl, hX, hS⟩ := hS
    refine ⟨by simp only [lk, wd, rm1, rm2, pick, popn, catS, pushO, aLV, cond_true, cond_false, Bool.not_true, Bool.not_false, Bool.and_true, Bool.and_false, Bool.true_and, Bool.false_and, eq_self, true_and, and_true, Nat.reduceBEq, Nat.reduceAdd, reduceIte, Nat.reduceEqDiff]; decide, sBX2_put_0 F hr hlk _ _ _ ?_⟩
    simp only [BX2_put_0, i_push, i_iload, i_lload, i_aload, i_istore, i_if, i_getR, i_aald, i_callV, i_iret, lk, wd, rm1, rm2, pick, popn, catS, pushO, aLV, cond_true, cond_false, Bool.not_true, Bool.not_false, Bool.and_true, Bool.and_false, Bool.true_and, Bool.false_and, eq_self, true_and, and_true, Nat.reduceBEq, Nat.reduceAdd, reduceIte, Nat.reduceEqDiff, SX0_setNumber, SX2_inWayOfCell]
    try simp only [tCnt, aK, aN, aR, eq_self, true_and, and_true, Nat.reduceLeDiff, Nat.reduceEqDiff]
    have hW1 : x_way M p0 i 0 = 0 → vp_in p0 24 := fun h => (way0 hX h).2.2.2.2.2.1
    have hW2 : x_way M p0 i 0 = 0 → cl p0 < 30 := fun h => (way0 hX h).2.2.2.2.2.2.1
    have hW3 : x_way M p0 i 0 = 0 → vp_in i 40 := fun h => (way0 hX h).2.2.2.2.2.2.2
    (try simp only [b2i_0, Bool.not_eq_true, Bool.not_eq_false])
    (repeat' (first | with_reducible assumption | exact b2i_1 _ | exact hW1 (by with_reducible assumption) | exact hW2 (by with_reducible assumption) | exact hW3 (by with_reducible assumption) | apply And.intro | intro _)) <;> (first | with_reducible assumption | decide | (simpa [x_put, *] using hS) | (simp_all [x_put]; done))
  · exact hS.elim
def SX2_sum : SP := fun as M post => match as with
  | [.inr (t, i0), .inl (.int p0), .inl (.int k)] => t = 0 ∧ i0 = 0 ∧ XOK M ∧ post (some (.inl (.int (x_sum M p0 k)))) M
  | _ => False
abbrev rmX2_sum : Room := ({ frames := 4, cells := 0, slots := 0, locals := 240 } : Room)
def BX2_sum_0 (Qr : Option AV → MM → Prop) (lv : LV) (st : List AV) (M : MM) : Prop := (i_iload 1 (i_call 1 SX2_isPlace (i_if (fun a => a = 0) (i_push (.inl (.int (-1))) (i_iret Qr)) (i_iload 2 (i_call 1 SX2_isKindOfNumbers (i_if (fun a => a = 0) (i_push (.inl (.int (-1))) (i_iret Qr)) (i_aload 0 (i_getR 0 1 (fun _ => 0) (i_iload 1 (i_aald (i_astore 3 (i_aload 3 (i_callV 0 4 SX0_isNone (i_if (fun a => a = 0) (i_aload 3 (i_getI 4 0 (i_iload 2 (i_cmp (fun a b => a = b) (i_aload 3 (i_callV 0 4 SX0_isGone (i_if (fun a => a = 0) (i_aload 3 (i_callV 0 4 SX0_total (i_iret Qr))) (i_push (.inl (.int (-11))) (i_iret Qr))))) (i_push (.inl (.int (-15))) (i_iret Qr)))))) (i_push (.inl (.int (-11))) (i_iret Qr)))))))))))))))) lv st M
set_option maxRecDepth 100000 in
set_option maxHeartbeats 4000000 in
theorem sBX2_sum_0 {p : Program} {l : Launch} {e : Env} {s : State} {m : MethodId} {args : Array Value} {below : List Frame} {meth : Method} {c : Code} {G : Nat → Nat → Nat} {cy dC : Nat → ClassId} {dI : Nat → Nat → Nat} {Qr : Option AV → MM → Prop} (F : FX p m c cX2_sum 4 RX2 s args (AW G) G cy dC dI) (hr : meth.sig.returnType = (some .int)) (hlk : meth.locks = false) : SO p l e rmX2_sum s m args below meth c 0 0 (MQ below (QI G cy dC dI Qr) args s 0 0 (AW G)) 4 (AW G) G cy dC dI 0 (BX2_sum_0 Qr) := by
  exact (s_iload_n F dX2_sum_0 rfl (s_callSi F dX2_sum_1 (ctX2_isPlace l) (lw_S q89 q90 q1 q91) ⟨rfl, rfl⟩ (by decide +kernel) (by decide) ⟨Nat.zero_le _, Nat.zero_le _⟩ (s_if_eq F dX2_sum_4 (by decide) (s_iconst F dX2_sum_14 (by decide) (s_iret F dX2_sum_15 hr hlk)) (s_iload_n F dX2_sum_7 rfl (s_callSi F dX2_sum_8 (ctX2_isKindOfNumbers l) (lw_S q165 q166 q1 q167) ⟨rfl, rfl⟩ (by decide +kernel) (by decide) ⟨Nat.zero_le _, Nat.zero_le _⟩ (s_if_ne F dX2_sum_11 (by decide) (s_aload_n F dX2_sum_16 rfl (s_getR F (ci := 2) (f := 0) dX2_sum_17 rfl in_X2 (by decide) q69 (fun _ _ _ _ => ⟨_, rfl, rfl⟩) (s_iload_n F dX2_sum_20 rfl (s_aald F dX2_sum_21 (s_astore_n F dX2_sum_22 rfl (by decide) (s_aload_n F dX2_sum_23 rfl (s_callVi F dX2_sum_24 (ctX0_isNone l) (lw_V q123 q124 q125 q2 q126) ⟨rfl, rfl⟩ (by decide +kernel) (by decide) ⟨Nat.zero_le _, Nat.zero_le _⟩ (ci := 0) rfl (fun _ _ _ _ => ⟨_, rfl⟩) (s_if_eq F dX2_sum_27 (by decide) (s_aload_n F dX2_sum_33 rfl (s_getIN F (ci := 0) (host := "MappingMoves") dX2_sum_34 rfl in_X0 (by decide) (by decide +kernel) (fun _ _ _ _ => ⟨_, rfl, rfl⟩) (s_iload_n F dX2_sum_37 rfl (s_icmp_eq F dX2_sum_38 (by decide) (s_aload_n F dX2_sum_44 rfl (s_callVi F dX2_sum_45 (ctX0_isGone l) (lw_V q111 q112 q113 q2 q114) ⟨rfl, rfl⟩ (by decide +kernel) (by decide) ⟨Nat.zero_le _, Nat.zero_le _⟩ (ci := 0) rfl (fun _ _ _ _ => ⟨_, rfl⟩) (s_if_eq F dX2_sum_48 (by decide) (s_aload_n F dX2_sum_56 rfl (s_callVi F dX2_sum_57 (ctX0_total l) (lw_V q168 q169 q170 q2 q171) ⟨rfl, rfl⟩ (by decide +kernel) (by decide) ⟨Nat.zero_le _, Nat.zero_le _⟩ (ci := 0) rfl (fun _ _ _ _ => ⟨_, rfl⟩) (s_iret F dX2_sum_60 hr hlk))) (s_bipush F dX2_sum_51 (by decide) (s_goto F dX2_sum_53 (by decide) (s_iret F dX2_sum_60 hr hlk)))))) (s_bipush F dX2_sum_41 (by decide) (s_iret F dX2_sum_43 hr hlk)))))) (s_bipush F dX2_sum_30 (by decide) (s_iret F dX2_sum_32 hr hlk)))))))))) (s_iconst F dX2_sum_14 (by decide) (s_iret F dX2_sum_15 hr hlk))))))))
set_option maxRecDepth 100000 in
set_option maxHeartbeats 4000000 in
theorem ctX2_sum (l : Launch) : CI l yX2_sum (ws_ yX2_sum cX2_sum 4 (some .int)) rmX2_sum SX2_sum := by
  refine mk_CI (by decide) ?_
  intro p e s m args below meth c G cy dC dI F hr hlk as M post hS
  unfold SX2_sum at hS
  split at hS
  · rename_i t i0 p0 k
    obtain ⟨rfl, rfl, hX, hS⟩ := hS
    refine ⟨by simp only [lk, wd, rm1, rm2, pick, popn, catS, pushO, aLV, cond_true, cond_false, Bool.not_true, Bool.not_false, Bool.and_true, Bool.and_false, Bool.true_and, Bool.false_and, eq_self, true_and, and_true, Nat.reduceBEq, Nat.reduceAdd, reduceIte, Nat.reduceEqDiff]; decide, sBX2_sum_0 F hr hlk _ _ _ ?_⟩
    simp only [BX2_sum_0, i_push, i_iload, i_aload, i_astore, i_if, i_cmp, i_getI, i_getR, i_aald, i_call, i_callV, i_iret, lk, wd, rm1, rm2, pick, popn, catS, pushO, aLV, cond_true, cond_false, Bool.not_true, Bool.not_false, Bool.and_true, Bool.and_false, Bool.true_and, Bool.false_and, eq_self, true_and, and_true, Nat.reduceBEq, Nat.reduceAdd, reduceIte, Nat.reduceEqDiff, SX0_isGone, SX0_isNone, SX0_total, SX2_isKindOfNumbers, SX2_isPlace]
    try simp only [tCnt, aK, aN, aR, eq_self, true_and, and_true, Nat.reduceLeDiff, Nat.reduceEqDiff]
    have hP1 : isPl p0 = true → vp_in p0 24 := fun h => (isPl_in h).1
    have hP2 : isPl p0 = true → cl p0 < 30 := fun h => Nat.lt_trans (isPl_in h).2 (by decide)
    have hC : isPl p0 = true → cOK M (cl p0) := fun h => hX.1 _ (hP2 h)
    have hG : ∀ i, i < 40 → GR (M.2.2 7 (cl p0) i) := fun i _ => hX.2.1 _ i
    (try simp only [b2i_0, Bool.not_eq_true, Bool.not_eq_false])
    (repeat' (first | with_reducible assumption | exact b2i_1 _ | exact hP1 (by with_reducible assumption) | exact hP2 (by with_reducible assumption) | exact hC (by with_reducible assumption) | apply And.intro | intro _)) <;> (first | with_reducible assumption | decide | (simpa [x_sum, *] using hS) | (simp_all [x_sum]; done))
  · exact hS.elim
def SX2_turn : SP := fun as M post => match as with
  | [.inr (t, i0), .inl (.int p0), .inl (.int k)] => t = 0 ∧ i0 = 0 ∧ XOK M ∧ post (some (.inl (.int (x_turn M p0 k).1))) (x_turn M p0 k).2
  | _ => False
abbrev rmX2_turn : Room := ({ frames := 4, cells := 0, slots := 0, locals := 240 } : Room)
def BX2_turn_0 (Qr : Option AV → MM → Prop) (lv : LV) (st : List AV) (M : MM) : Prop := (i_iload 1 (i_call 1 SX2_isPlace (i_if (fun a => a = 0) (i_push (.inl (.int (-1))) (i_iret Qr)) (i_iload 2 (i_call 1 SX2_isKindOfNumbers (i_if (fun a => a = 0) (i_push (.inl (.int (-1))) (i_iret Qr)) (i_aload 0 (i_getR 0 1 (fun _ => 0) (i_iload 1 (i_aald (i_astore 3 (i_aload 3 (i_callV 0 4 SX0_isNone (i_if (fun a => a = 0) (i_aload 3 (i_callV 0 4 SX0_isShelf (i_if (fun a => a = 0) (i_aload 3 (i_callV 0 4 SX0_isGone (i_if (fun a => a = 0) (i_aload 3 (i_iload 2 (i_callV 1 4 SX0_firstNotIn (i_istore 4 (i_iload 4 (i_aload 3 (i_getI 4 1 (i_cmp (fun a b => a < b) (i_push (.inl (.int (-20))) (i_iload 4 (i_II (fun a b => a - b) (i_iret Qr)))) (i_aload 3 (i_iload 2 (i_callV 1 4 SX0_becomeKind (i_push (.inl (.int 1)) (i_iret Qr))))))))))))) (i_push (.inl (.int (-11))) (i_iret Qr))))) (i_push (.inl (.int (-13))) (i_iret Qr))))) (i_push (.inl (.int (-11))) (i_iret Qr)))))))))))))))) lv st M
set_option maxRecDepth 100000 in
set_option maxHeartbeats 4000000 in
theorem sBX2_turn_0 {p : Program} {l : Launch} {e : Env} {s : State} {m : MethodId} {args : Array Value} {below : List Frame} {meth : Method} {c : Code} {G : Nat → Nat → Nat} {cy dC : Nat → ClassId} {dI : Nat → Nat → Nat} {Qr : Option AV → MM → Prop} (F : FX p m c cX2_turn 5 RX2 s args (AW G) G cy dC dI) (hr : meth.sig.returnType = (some .int)) (hlk : meth.locks = false) : SO p l e rmX2_turn s m args below meth c 0 0 (MQ below (QI G cy dC dI Qr) args s 0 0 (AW G)) 5 (AW G) G cy dC dI 0 (BX2_turn_0 Qr) := by
  exact (s_iload_n F dX2_turn_0 rfl (s_callSi F dX2_turn_1 (ctX2_isPlace l) (lw_S q89 q90 q1 q91) ⟨rfl, rfl⟩ (by decide +kernel) (by decide) ⟨Nat.zero_le _, Nat.zero_le _⟩ (s_if_eq F dX2_turn_4 (by decide) (s_iconst F dX2_turn_14 (by decide) (s_iret F dX2_turn_15 hr hlk)) (s_iload_n F dX2_turn_7 rfl (s_callSi F dX2_turn_8 (ctX2_isKindOfNumbers l) (lw_S q165 q166 q1 q167) ⟨rfl, rfl⟩ (by decide +kernel) (by decide) ⟨Nat.zero_le _, Nat.zero_le _⟩ (s_if_ne F dX2_turn_11 (by decide) (s_aload_n F dX2_turn_16 rfl (s_getR F (ci := 2) (f := 0) dX2_turn_17 rfl in_X2 (by decide) q69 (fun _ _ _ _ => ⟨_, rfl, rfl⟩) (s_iload_n F dX2_turn_20 rfl (s_aald F dX2_turn_21 (s_astore_n F dX2_turn_22 rfl (by decide) (s_aload_n F dX2_turn_23 rfl (s_callVi F dX2_turn_24 (ctX0_isNone l) (lw_V q123 q124 q125 q2 q126) ⟨rfl, rfl⟩ (by decide +kernel) (by decide) ⟨Nat.zero_le _, Nat.zero_le _⟩ (ci := 0) rfl (fun _ _ _ _ => ⟨_, rfl⟩) (s_if_eq F dX2_turn_27 (by decide) (s_aload_n F dX2_turn_33 rfl (s_callVi F dX2_turn_34 (ctX0_isShelf l) (lw_V q147 q97 q98 q2 q99) ⟨rfl, rfl⟩ (by decide +kernel) (by decide) ⟨Nat.zero_le _, Nat.zero_le _⟩ (ci := 0) rfl (fun _ _ _ _ => ⟨_, rfl⟩) (s_if_eq F dX2_turn_37 (by decide) (s_aload_n F dX2_turn_43 rfl (s_callVi F dX2_turn_44 (ctX0_isGone l) (lw_V q111 q112 q113 q2 q114) ⟨rfl, rfl⟩ (by decide +kernel) (by decide) ⟨Nat.zero_le _, Nat.zero_le _⟩ (ci := 0) rfl (fun _ _ _ _ => ⟨_, rfl⟩) (s_if_eq F dX2_turn_47 (by decide) (s_aload_n F dX2_turn_53 rfl (s_iload_n F dX2_turn_54 rfl (s_callVi F dX2_turn_55 (ctX0_firstNotIn l) (lw_V q187 q188 q189 q2 q190) ⟨rfl, rfl⟩ (by decide +kernel) (by decide) ⟨Nat.zero_le _, Nat.zero_le _⟩ (ci := 0) rfl (fun _ _ _ _ => ⟨_, rfl⟩) (s_istore F dX2_turn_58 (by decide) (s_iload F dX2_turn_60 (s_aload_n F dX2_turn_62 rfl (s_getIN F (ci := 0) (host := "MappingMoves") dX2_turn_63 rfl in_X0 (by decide) (by decide +kernel) (fun _ _ _ _ => ⟨_, rfl, rfl⟩) (s_icmp_ge F dX2_turn_66 (by decide) (s_aload_n F dX2_turn_75 rfl (s_iload_n F dX2_turn_76 rfl (s_callVv F dX2_turn_77 (ctX0_becomeKind l) (lw_V q201 q202 q203 q2 q204) ⟨rfl, rfl⟩ (by decide +kernel) (by decide) ⟨Nat.zero_le _, Nat.zero_le _⟩ (ci := 0) rfl (fun _ _ _ _ => ⟨_, rfl⟩) (s_iconst F dX2_turn_80 (by decide) (s_iret F dX2_turn_81 hr hlk))))) (s_bipush F dX2_turn_69 (by decide) (s_iload F dX2_turn_71 (s_isub F dX2_turn_73 (s_iret F dX2_turn_74 hr hlk)))))))))))) (s_bipush F dX2_turn_50 (by decide) (s_iret F dX2_turn_52 hr hlk))))) (s_bipush F dX2_turn_40 (by decide) (s_iret F dX2_turn_42 hr hlk))))) (s_bipush F dX2_turn_30 (by decide) (s_iret F dX2_turn_32 hr hlk)))))))))) (s_iconst F dX2_turn_14 (by decide) (s_iret F dX2_turn_15 hr hlk))))))))
set_option maxRecDepth 100000 in
set_option maxHeartbeats 4000000 in
theorem ctX2_turn (l : Launch) : CI l yX2_turn (ws_ yX2_turn cX2_turn 5 (some .int)) rmX2_turn SX2_turn := by
  refine mk_CI (by decide) ?_
  intro p e s m args below meth c G cy dC dI F hr hlk as M post hS
  unfold SX2_turn at hS
  split at hS
  · rename_i t i0 p0 k
    obtain ⟨rfl, rfl, hX, hS⟩ := hS
    refine ⟨by simp only [lk, wd, rm1, rm2, pick, popn, catS, pushO, aLV, cond_true, cond_false, Bool.not_true, Bool.not_false, Bool.and_true, Bool.and_false, Bool.true_and, Bool.false_and, eq_self, true_and, and_true, Nat.reduceBEq, Nat.reduceAdd, reduceIte, Nat.reduceEqDiff]; decide, sBX2_turn_0 F hr hlk _ _ _ ?_⟩
    simp only [BX2_turn_0, i_push, i_iload, i_aload, i_istore, i_astore, i_II, i_if, i_cmp, i_getI, i_getR, i_aald, i_call, i_callV, i_iret, lk, wd, rm1, rm2, pick, popn, catS, pushO, aLV, cond_true, cond_false, Bool.not_true, Bool.not_false, Bool.and_true, Bool.and_false, Bool.true_and, Bool.false_and, eq_self, true_and, and_true, Nat.reduceBEq, Nat.reduceAdd, reduceIte, Nat.reduceEqDiff, SX0_becomeKind, SX0_firstNotIn, SX0_isGone, SX0_isNone, SX0_isShelf, SX2_isKindOfNumbers, SX2_isPlace]
    try simp only [tCnt, aK, aN, aR, eq_self, true_and, and_true, Nat.reduceLeDiff, Nat.reduceEqDiff]
    have hP1 : isPl p0 = true → vp_in p0 24 := fun h => (isPl_in h).1
    have hP2 : isPl p0 = true → cl p0 < 30 := fun h => Nat.lt_trans (isPl_in h).2 (by decide)
    have hC : isPl p0 = true → cOK M (cl p0) := fun h => hX.1 _ (hP2 h)
    have hG : ∀ i, i < 40 → GR (M.2.2 7 (cl p0) i) := fun i _ => hX.2.1 _ i
    (try simp only [b2i_0, Bool.not_eq_true, Bool.not_eq_false])
    (repeat' (first | with_reducible assumption | exact b2i_1 _ | exact hP1 (by with_reducible assumption) | exact hP2 (by with_reducible assumption) | exact hC (by with_reducible assumption) | apply And.intro | intro _)) <;> (first | with_reducible assumption | decide | (simpa [x_turn, *] using hS) | (simp_all [x_turn]; done))
  · exact hS.elim
def SX2_part : SP := fun as M post => match as with
  | [.inr (t, i0), .inl (.int z), .inl (.int w)] => t = 0 ∧ i0 = 0 ∧ XOK M ∧ post (some (.inl (.int (x_part M z w).1))) (x_part M z w).2
  | _ => False
abbrev rmX2_part : Room := ({ frames := 1, cells := 0, slots := 0, locals := 60 } : Room)
def BX2_part_0 (Qr : Option AV → MM → Prop) (lv : LV) (st : List AV) (M : MM) : Prop := (i_iload 1 (i_if (fun a => a < 0) (i_push (.inl (.int (-1))) (i_iret Qr)) (i_iload 1 (i_push (.inl (.int 2)) (i_cmp (fun a b => b < a) (i_push (.inl (.int (-1))) (i_iret Qr)) (i_iload 2 (i_if (fun a => a < 0) (i_push (.inl (.int (-1))) (i_iret Qr)) (i_iload 2 (i_push (.inl (.int 1000)) (i_cmp (fun a b => b < a) (i_push (.inl (.int (-1))) (i_iret Qr)) (i_aload 0 (i_getI 0 3 (i_push (.inl (.int 40)) (i_cmp (fun a b => a < b) (i_aload 0 (i_getI 0 3 (i_istore 3 (i_aload 0 (i_getR 0 3 (fun _ => 0) (i_iload 3 (i_aald (i_iload 1 (i_iload 2 (i_callV 2 5 SX1_begin (i_aload 0 (i_iload 3 (i_push (.inl (.int 1)) (i_II (fun a b => a + b) (i_putI 0 3 (i_iload 3 (i_iret Qr))))))))))))))))) (i_push (.inl (.int (-2))) (i_iret Qr)))))))))))))))) lv st M
set_option maxRecDepth 100000 in
set_option maxHeartbeats 4000000 in
theorem sBX2_part_0 {p : Program} {l : Launch} {e : Env} {s : State} {m : MethodId} {args : Array Value} {below : List Frame} {meth : Method} {c : Code} {G : Nat → Nat → Nat} {cy dC : Nat → ClassId} {dI : Nat → Nat → Nat} {Qr : Option AV → MM → Prop} (F : FX p m c cX2_part 4 RX2 s args (AW G) G cy dC dI) (hr : meth.sig.returnType = (some .int)) (hlk : meth.locks = false) : SO p l e rmX2_part s m args below meth c 0 0 (MQ below (QI G cy dC dI Qr) args s 0 0 (AW G)) 4 (AW G) G cy dC dI 0 (BX2_part_0 Qr) := by
  exact (s_iload_n F dX2_part_0 rfl (s_if_lt F dX2_part_1 (by decide) (s_iconst F dX2_part_20 (by decide) (s_iret F dX2_part_21 hr hlk)) (s_iload_n F dX2_part_4 rfl (s_iconst F dX2_part_5 (by decide) (s_icmp_gt F dX2_part_6 (by decide) (s_iconst F dX2_part_20 (by decide) (s_iret F dX2_part_21 hr hlk)) (s_iload_n F dX2_part_9 rfl (s_if_lt F dX2_part_10 (by decide) (s_iconst F dX2_part_20 (by decide) (s_iret F dX2_part_21 hr hlk)) (s_iload_n F dX2_part_13 rfl (s_sipush F dX2_part_14 (by decide) (s_icmp_le F dX2_part_17 (by decide) (s_aload_n F dX2_part_22 rfl (s_getI F (ci := 2) dX2_part_23 rfl in_X2 (by decide) q72 (fun _ _ _ _ => ⟨_, rfl, rfl⟩) (s_bipush F dX2_part_26 (by decide) (s_icmp_lt F dX2_part_28 (by decide) (s_aload_n F dX2_part_34 rfl (s_getI F (ci := 2) dX2_part_35 rfl in_X2 (by decide) q72 (fun _ _ _ _ => ⟨_, rfl, rfl⟩) (s_istore_n F dX2_part_38 rfl (by decide) (s_aload_n F dX2_part_39 rfl (s_getR F (ci := 2) (f := 2) dX2_part_40 rfl in_X2 (by decide) q71 (fun _ _ _ _ => ⟨_, rfl, rfl⟩) (s_iload_n F dX2_part_43 rfl (s_aald F dX2_part_44 (s_iload_n F dX2_part_45 rfl (s_iload_n F dX2_part_46 rfl (s_callVv F dX2_part_47 (ctX1_begin l) (lw_V q209 q210 q211 q3 q212) ⟨rfl, rfl⟩ (by decide +kernel) (by decide) ⟨Nat.zero_le _, Nat.zero_le _⟩ (ci := 1) rfl (fun _ _ _ _ => ⟨_, rfl⟩) (s_aload_n F dX2_part_50 rfl (s_iload_n F dX2_part_51 rfl (s_iconst F dX2_part_52 (by decide) (s_iadd F dX2_part_53 (s_putI F (ci := 2) dX2_part_54 rfl in_X2 tyX2 tyX2_ok nmX2 (by decide) q72 rfl (by decide +kernel) (fun _ _ _ _ _ => ⟨_, rfl, Nat.le_of_ble_eq_true rfl, rfl⟩) (s_iload_n F dX2_part_57 rfl (s_iret F dX2_part_58 hr hlk))))))))))))))))) (s_bipush F dX2_part_31 (by decide) (s_iret F dX2_part_33 hr hlk)))))) (s_iconst F dX2_part_20 (by decide) (s_iret F dX2_part_21 hr hlk))))))))))))
set_option maxRecDepth 100000 in
set_option maxHeartbeats 4000000 in
theorem ctX2_part (l : Launch) : CI l yX2_part (ws_ yX2_part cX2_part 4 (some .int)) rmX2_part SX2_part := by
  refine mk_CI (by decide) ?_
  intro p e s m args below meth c G cy dC dI F hr hlk as M post hS
  unfold SX2_part at hS
  split at hS
  · rename_i t i0 z w
    obtain ⟨rfl, rfl, hX, hS⟩ := hS
    refine ⟨by simp only [lk, wd, rm1, rm2, pick, popn, catS, pushO, aLV, cond_true, cond_false, Bool.not_true, Bool.not_false, Bool.and_true, Bool.and_false, Bool.true_and, Bool.false_and, eq_self, true_and, and_true, Nat.reduceBEq, Nat.reduceAdd, reduceIte, Nat.reduceEqDiff]; decide, sBX2_part_0 F hr hlk _ _ _ ?_⟩
    simp only [BX2_part_0, i_push, i_iload, i_aload, i_istore, i_II, i_if, i_cmp, i_getI, i_getR, i_putI, i_aald, i_callV, i_iret, lk, wd, rm1, rm2, pick, popn, catS, pushO, aLV, cond_true, cond_false, Bool.not_true, Bool.not_false, Bool.and_true, Bool.and_false, Bool.true_and, Bool.false_and, eq_self, true_and, and_true, Nat.reduceBEq, Nat.reduceAdd, reduceIte, Nat.reduceEqDiff, SX1_begin]
    try simp only [tCnt, aK, aN, aR, eq_self, true_and, and_true, Nat.reduceLeDiff, Nat.reduceEqDiff]
    have hQ1 : M.1 0 0 3 < 40 → vp_in (M.1 0 0 3) 40 := fun h => (pc_in hX h).1
    have hQ2 : M.1 0 0 3 < 40 → cl (M.1 0 0 3) < 40 := fun h => (pc_in hX h).2
    (try simp only [b2i_0, Bool.not_eq_true, Bool.not_eq_false])
    (repeat' (first | with_reducible assumption | exact b2i_1 _ | exact hQ1 (by with_reducible assumption) | exact hQ2 (by with_reducible assumption) | apply And.intro | intro _)) <;> (first | with_reducible assumption | decide | (simpa [x_part, *] using hS) | (simp_all [x_part]; done))
  · exact hS.elim
def SX2_isForPart : SP := fun as M post => match as with
  | [.inr (t, i0), .inr (t2, p0), .inl (.int j)] => t = 0 ∧ i0 = 0 ∧ t2 = 4 ∧ p0 < 30 ∧ (∃ n, n ≤ 40 ∧ M.1 0 0 3 = nI n) ∧ post (some (.inl (.int (b2i (xFor M p0 j = true))))) M
  | _ => False
abbrev rmX2_isForPart : Room := ({ frames := 1, cells := 0, slots := 0, locals := 60 } : Room)
def BX2_isForPart_0 (Qr : Option AV → MM → Prop) (lv : LV) (st : List AV) (M : MM) : Prop := (i_aload 0 (i_iload 2 (i_callV 1 0 SX2_isPart (i_if (fun a => a = 0) (i_push (.inl (.int 1)) (i_zret Qr)) (i_aload 1 (i_aload 0 (i_getR 0 3 (fun _ => 0) (i_iload 2 (i_aald (i_getI 5 0 (i_callV 1 4 SX0_isForSort (i_if (fun a => a = 0) (i_push (.inl (.int 0)) (i_zret Qr)) (i_push (.inl (.int 1)) (i_zret Qr)))))))))))))) lv st M
set_option maxRecDepth 100000 in
set_option maxHeartbeats 4000000 in
theorem sBX2_isForPart_0 {p : Program} {l : Launch} {e : Env} {s : State} {m : MethodId} {args : Array Value} {below : List Frame} {meth : Method} {c : Code} {G : Nat → Nat → Nat} {cy dC : Nat → ClassId} {dI : Nat → Nat → Nat} {Qr : Option AV → MM → Prop} (F : FX p m c cX2_isForPart 3 RX2 s args (AW G) G cy dC dI) (hr : meth.sig.returnType = (some .boolean)) (hlk : meth.locks = false) : SO p l e rmX2_isForPart s m args below meth c 0 0 (MQ below (QI G cy dC dI Qr) args s 0 0 (AW G)) 3 (AW G) G cy dC dI 0 (BX2_isForPart_0 Qr) := by
  exact (s_aload_n F dX2_isForPart_0 rfl (s_iload_n F dX2_isForPart_1 rfl (s_callVi F dX2_isForPart_2 (ctX2_isPart l) (lw_V q217 q219 qs1 q1 q220) ⟨rfl, rfl⟩ (by decide +kernel) (by decide) ⟨Nat.zero_le _, Nat.zero_le _⟩ (ci := 2) rfl (fun _ _ _ _ => ⟨_, rfl⟩) (s_if_eq F dX2_isForPart_5 (by decide) (s_iconst F dX2_isForPart_24 (by decide) (s_goto F dX2_isForPart_25 (by decide) (s_zret F dX2_isForPart_29 hr hlk))) (s_aload_n F dX2_isForPart_8 rfl (s_aload_n F dX2_isForPart_9 rfl (s_getR F (ci := 2) (f := 2) dX2_isForPart_10 rfl in_X2 (by decide) q71 (fun _ _ _ _ => ⟨_, rfl, rfl⟩) (s_iload_n F dX2_isForPart_13 rfl (s_aald F dX2_isForPart_14 (s_getIN F (ci := 1) (host := "MappingMoves") dX2_isForPart_15 rfl in_X1 (by decide) (by decide +kernel) (fun _ _ _ _ => ⟨_, rfl, rfl⟩) (s_callVi F dX2_isForPart_18 (ctX0_isForSort l) (lw_V q225 q226 q227 q2 q228) ⟨rfl, rfl⟩ (by decide +kernel) (by decide) ⟨Nat.zero_le _, Nat.zero_le _⟩ (ci := 0) rfl (fun _ _ _ _ => ⟨_, rfl⟩) (s_if_eq F dX2_isForPart_21 (by decide) (s_iconst F dX2_isForPart_28 (by decide) (s_zret F dX2_isForPart_29 hr hlk)) (s_iconst F dX2_isForPart_24 (by decide) (s_goto F dX2_isForPart_25 (by decide) (s_zret F dX2_isForPart_29 hr hlk)))))))))))))))
set_option maxRecDepth 100000 in
set_option maxHeartbeats 4000000 in
theorem ctX2_isForPart (l : Launch) : CI l yX2_isForPart (ws_ yX2_isForPart cX2_isForPart 3 (some .boolean)) rmX2_isForPart SX2_isForPart := by
  refine mk_CI (by decide) ?_
  intro p e s m args below meth c G cy dC dI F hr hlk as M post hS
  unfold SX2_isForPart at hS
  split at hS
  · rename_i t i0 t2 p0 j
    obtain ⟨rfl, rfl, rfl, hp, hX, hS⟩ := hS
    refine ⟨by simp only [lk, wd, rm1, rm2, pick, popn, catS, pushO, aLV, cond_true, cond_false, Bool.not_true, Bool.not_false, Bool.and_true, Bool.and_false, Bool.true_and, Bool.false_and, eq_self, true_and, and_true, Nat.reduceBEq, Nat.reduceAdd, reduceIte, Nat.reduceEqDiff]; decide, sBX2_isForPart_0 F hr hlk _ _ _ ?_⟩
    simp only [BX2_isForPart_0, i_push, i_iload, i_aload, i_if, i_getI, i_getR, i_aald, i_callV, i_zret, lk, wd, rm1, rm2, pick, popn, catS, pushO, aLV, cond_true, cond_false, Bool.not_true, Bool.not_false, Bool.and_true, Bool.and_false, Bool.true_and, Bool.false_and, eq_self, true_and, and_true, Nat.reduceBEq, Nat.reduceAdd, reduceIte, Nat.reduceEqDiff, SX0_isForSort, SX2_isPart]
    try simp only [tCnt, aK, aN, aR, eq_self, true_and, and_true, Nat.reduceLeDiff, Nat.reduceEqDiff]
    have hT1 : ∀ j, isPt M j = true → vp_in j 40 := fun j h => (isPt_in hX h).1
    have hT2 : ∀ j, isPt M j = true → cl j < 40 := fun j h => (isPt_in hX h).2
    (try simp only [b2i_0, Bool.not_eq_true, Bool.not_eq_false])
    (repeat' (first | with_reducible assumption | exact b2i_1 _ | exact hT1 _ (by with_reducible assumption) | exact hT2 _ (by with_reducible assumption) | apply And.intro | intro _)) <;> (first | with_reducible assumption | decide | (simpa [xFor, b2i, *] using hS) | (simp_all [xFor, b2i]; done))
  · exact hS.elim
def SX2_lay : SP := fun as M post => match as with
  | [.inr (t, i0), .inl (.int p0), .inl (.int i), .inl (.int j)] => t = 0 ∧ i0 = 0 ∧ XOK M ∧ post (some (.inl (.int (x_lay M p0 i j).1))) (x_lay M p0 i j).2
  | _ => False
abbrev rmX2_lay : Room := ({ frames := 2, cells := 0, slots := 0, locals := 120 } : Room)
def BX2_lay_22 (Qr : Option AV → MM → Prop) (lv : LV) (st : List AV) (M : MM) : Prop := (i_aload 0 (i_iload 1 (i_iload 2 (i_push (.inl (.int 1)) (i_callV 3 0 SX2_inWayOfCell (i_istore 4 (i_iload 4 (i_if (fun a => a = 0) (i_aload 0 (i_getR 0 1 (fun _ => 0) (i_iload 1 (i_aald (i_astore 5 (i_aload 0 (i_aload 5 (i_iload 3 (i_callV 2 0 SX2_isForPart (i_if (fun a => a = 0) (i_push (.inl (.int (-14))) (i_iret Qr)) (i_aload 5 (i_iload 2 (i_iload 3 (i_callV 2 4 SX0_holdPart (i_aload 0 (i_iload 3 (i_callV 1 0 SX2_isPart (i_if (fun a => a = 0) (i_push (.inl (.int 1)) (i_iret Qr)) (i_aload 0 (i_getR 0 3 (fun _ => 0) (i_iload 3 (i_aald (i_dup (i_getI 5 2 (i_push (.inl (.int 1)) (i_II (fun a b => a + b) (i_putI 5 2 (i_push (.inl (.int 1)) (i_iret Qr))))))))))))))))))))))))))))) (i_iload 4 (i_iret Qr)))))))))) lv st M
set_option maxRecDepth 100000 in
set_option maxHeartbeats 4000000 in
theorem sBX2_lay_22 {p : Program} {l : Launch} {e : Env} {s : State} {m : MethodId} {args : Array Value} {below : List Frame} {meth : Method} {c : Code} {G : Nat → Nat → Nat} {cy dC : Nat → ClassId} {dI : Nat → Nat → Nat} {Qr : Option AV → MM → Prop} (F : FX p m c cX2_lay 6 RX2 s args (AW G) G cy dC dI) (hr : meth.sig.returnType = (some .int)) (hlk : meth.locks = false) : SO p l e rmX2_lay s m args below meth c 0 0 (MQ below (QI G cy dC dI Qr) args s 0 0 (AW G)) 6 (AW G) G cy dC dI 22 (BX2_lay_22 Qr) := by
  exact (s_aload_n F dX2_lay_22 rfl (s_iload_n F dX2_lay_23 rfl (s_iload_n F dX2_lay_24 rfl (s_iconst F dX2_lay_25 (by decide) (s_callVi F dX2_lay_26 (ctX2_inWayOfCell l) (lw_V q143 q145 qs0 q1 q146) ⟨rfl, rfl⟩ (by decide +kernel) (by decide) ⟨Nat.zero_le _, Nat.zero_le _⟩ (ci := 2) rfl (fun _ _ _ _ => ⟨_, rfl⟩) (s_istore F dX2_lay_29 (by decide) (s_iload F dX2_lay_31 (s_if_eq F dX2_lay_33 (by decide) (s_aload_n F dX2_lay_39 rfl (s_getR F (ci := 2) (f := 0) dX2_lay_40 rfl in_X2 (by decide) q69 (fun _ _ _ _ => ⟨_, rfl, rfl⟩) (s_iload_n F dX2_lay_43 rfl (s_aald F dX2_lay_44 (s_astore F dX2_lay_45 (by decide) (s_aload_n F dX2_lay_47 rfl (s_aload F dX2_lay_48 (s_iload_n F dX2_lay_50 rfl (s_callVi F dX2_lay_51 (ctX2_isForPart l) (lw_V q221 q223 qs2 q1 q224) ⟨rfl, rfl⟩ (by decide +kernel) (by decide) ⟨Nat.zero_le _, Nat.zero_le _⟩ (ci := 2) rfl (fun _ _ _ _ => ⟨_, rfl⟩) (s_if_ne F dX2_lay_54 (by decide) (s_aload F dX2_lay_60 (s_iload_n F dX2_lay_62 rfl (s_iload_n F dX2_lay_63 rfl (s_callVv F dX2_lay_64 (ctX0_holdPart l) (lw_V q229 q230 q231 q2 q232) ⟨rfl, rfl⟩ (by decide +kernel) (by decide) ⟨Nat.zero_le _, Nat.zero_le _⟩ (ci := 0) rfl (fun _ _ _ _ => ⟨_, rfl⟩) (s_aload_n F dX2_lay_67 rfl (s_iload_n F dX2_lay_68 rfl (s_callVi F dX2_lay_69 (ctX2_isPart l) (lw_V q217 q219 qs1 q1 q220) ⟨rfl, rfl⟩ (by decide +kernel) (by decide) ⟨Nat.zero_le _, Nat.zero_le _⟩ (ci := 2) rfl (fun _ _ _ _ => ⟨_, rfl⟩) (s_if_eq F dX2_lay_72 (by decide) (s_iconst F dX2_lay_90 (by decide) (s_iret F dX2_lay_91 hr hlk)) (s_aload_n F dX2_lay_75 rfl (s_getR F (ci := 2) (f := 2) dX2_lay_76 rfl in_X2 (by decide) q71 (fun _ _ _ _ => ⟨_, rfl, rfl⟩) (s_iload_n F dX2_lay_79 rfl (s_aald F dX2_lay_80 (s_dup F dX2_lay_81 (s_getIN F (ci := 1) (host := "MappingMoves") dX2_lay_82 rfl in_X1 (by decide) (by decide +kernel) (fun _ _ _ _ => ⟨_, rfl, rfl⟩) (s_iconst F dX2_lay_85 (by decide) (s_iadd F dX2_lay_86 (s_putIN F (ci := 1) (host := "MappingMoves") dX2_lay_87 rfl in_X1 tyX1 tyX1_ok nmX1 (by decide) (by decide +kernel) rfl (by decide +kernel) (fun _ _ _ _ _ => ⟨_, rfl, Nat.le_of_ble_eq_true rfl, rfl⟩) (s_iconst F dX2_lay_90 (by decide) (s_iret F dX2_lay_91 hr hlk))))))))))))))))))) (s_bipush F dX2_lay_57 (by decide) (s_iret F dX2_lay_59 hr hlk)))))))))))) (s_iload F dX2_lay_36 (s_iret F dX2_lay_38 hr hlk))))))))))
def BX2_lay_0 (Qr : Option AV → MM → Prop) (lv : LV) (st : List AV) (M : MM) : Prop := (i_iload 1 (i_call 1 SX2_isPlace (i_if (fun a => a = 0) (i_push (.inl (.int (-1))) (i_iret Qr)) (i_iload 3 (i_push (.inl (.int (-1))) (i_cmp (fun a b => a = b) (i_cut [0, 1, 2, 3] (BX2_lay_22 Qr)) (i_aload 0 (i_iload 3 (i_callV 1 0 SX2_isPart (i_if (fun a => a = 0) (i_push (.inl (.int (-1))) (i_iret Qr)) (i_cut [0, 1, 2, 3] (BX2_lay_22 Qr)))))))))))) lv st M
set_option maxRecDepth 100000 in
set_option maxHeartbeats 4000000 in
theorem sBX2_lay_0 {p : Program} {l : Launch} {e : Env} {s : State} {m : MethodId} {args : Array Value} {below : List Frame} {meth : Method} {c : Code} {G : Nat → Nat → Nat} {cy dC : Nat → ClassId} {dI : Nat → Nat → Nat} {Qr : Option AV → MM → Prop} (F : FX p m c cX2_lay 6 RX2 s args (AW G) G cy dC dI) (hr : meth.sig.returnType = (some .int)) (hlk : meth.locks = false) : SO p l e rmX2_lay s m args below meth c 0 0 (MQ below (QI G cy dC dI Qr) args s 0 0 (AW G)) 6 (AW G) G cy dC dI 0 (BX2_lay_0 Qr) := by
  exact (s_iload_n F dX2_lay_0 rfl (s_callSi F dX2_lay_1 (ctX2_isPlace l) (lw_S q89 q90 q1 q91) ⟨rfl, rfl⟩ (by decide +kernel) (by decide) ⟨Nat.zero_le _, Nat.zero_le _⟩ (s_if_eq F dX2_lay_4 (by decide) (s_iconst F dX2_lay_20 (by decide) (s_iret F dX2_lay_21 hr hlk)) (s_iload_n F dX2_lay_7 rfl (s_iconst F dX2_lay_8 (by decide) (s_icmp_eq F dX2_lay_9 (by decide) (s_cut [0, 1, 2, 3] (sBX2_lay_22 F hr hlk)) (s_aload_n F dX2_lay_12 rfl (s_iload_n F dX2_lay_13 rfl (s_callVi F dX2_lay_14 (ctX2_isPart l) (lw_V q217 q219 qs1 q1 q220) ⟨rfl, rfl⟩ (by decide +kernel) (by decide) ⟨Nat.zero_le _, Nat.zero_le _⟩ (ci := 2) rfl (fun _ _ _ _ => ⟨_, rfl⟩) (s_if_ne F dX2_lay_17 (by decide) (s_cut [0, 1, 2, 3] (sBX2_lay_22 F hr hlk)) (s_iconst F dX2_lay_20 (by decide) (s_iret F dX2_lay_21 hr hlk))))))))))))
set_option maxRecDepth 100000 in
set_option maxHeartbeats 4000000 in
theorem ctX2_lay (l : Launch) : CI l yX2_lay (ws_ yX2_lay cX2_lay 6 (some .int)) rmX2_lay SX2_lay := by
  refine mk_CI (by decide) ?_
  intro p e s m args below meth c G cy dC dI F hr hlk as M post hS
  unfold SX2_lay at hS
  split at hS
  · rename_i t i0 p0 i j
    obtain ⟨rfl, rfl, hX, hS⟩ := hS
    refine ⟨by simp only [lk, wd, rm1, rm2, pick, popn, catS, pushO, aLV, cond_true, cond_false, Bool.not_true, Bool.not_false, Bool.and_true, Bool.and_false, Bool.true_and, Bool.false_and, eq_self, true_and, and_true, Nat.reduceBEq, Nat.reduceAdd, reduceIte, Nat.reduceEqDiff]; decide, sBX2_lay_0 F hr hlk _ _ _ ?_⟩
    simp only [BX2_lay_0, BX2_lay_22, i_push, i_iload, i_aload, i_istore, i_astore, i_II, i_dup, i_if, i_cmp, i_getI, i_getR, i_putI, i_aald, i_call, i_callV, i_iret, i_cut, lk, wd, rm1, rm2, pick, popn, catS, pushO, aLV, cond_true, cond_false, Bool.not_true, Bool.not_false, Bool.and_true, Bool.and_false, Bool.true_and, Bool.false_and, eq_self, true_and, and_true, Nat.reduceBEq, Nat.reduceAdd, reduceIte, Nat.reduceEqDiff, SX0_holdPart, SX2_inWayOfCell, SX2_isForPart, SX2_isPart, SX2_isPlace]
    try simp only [tCnt, aK, aN, aR, eq_self, true_and, and_true, Nat.reduceLeDiff, Nat.reduceEqDiff]
    have hT1 : ∀ j, isPt M j = true → vp_in j 40 := fun j h => (isPt_in hX.2.2 h).1
    have hT2 : ∀ j, isPt M j = true → cl j < 40 := fun j h => (isPt_in hX.2.2 h).2
    have hW1 : x_way M p0 i 1 = 0 → vp_in p0 24 := fun h => (way0 hX h).2.2.2.2.2.1
    have hW2 : x_way M p0 i 1 = 0 → cl p0 < 30 := fun h => (way0 hX h).2.2.2.2.2.2.1
    have hW3 : x_way M p0 i 1 = 0 → vp_in i 40 := fun h => (way0 hX h).2.2.2.2.2.2.2
    have hX3 := hX.2.2
    (try simp only [b2i_0, Bool.not_eq_true, Bool.not_eq_false])
    simp only [isPt_sL, sL_1]
    (repeat' (first | with_reducible assumption | exact b2i_1 _ | exact hT1 _ (by with_reducible assumption) | exact hT2 _ (by with_reducible assumption) | exact hW1 (by with_reducible assumption) | exact hW2 (by with_reducible assumption) | exact hW3 (by with_reducible assumption) | apply And.intro | intro _)) <;> (first | with_reducible assumption | decide | (simpa [x_lay, isPt_m1, *] using hS) | (simp_all [x_lay, isPt_m1]; done))
  · exact hS.elim
def SX2_partLookedAt : SP := fun as M post => match as with
  | [.inr (t, i0), .inl (.int p0), .inl (.int i)] => t = 0 ∧ i0 = 0 ∧ XOK M ∧ post (some (.inl (.int (x_pla M p0 i)))) M
  | _ => False
abbrev rmX2_partLookedAt : Room := ({ frames := 2, cells := 0, slots := 0, locals := 120 } : Room)
def BX2_partLookedAt_0 (Qr : Option AV → MM → Prop) (lv : LV) (st : List AV) (M : MM) : Prop := (i_aload 0 (i_iload 1 (i_iload 2 (i_push (.inl (.int 1)) (i_callV 3 0 SX2_inWayOfCell (i_istore 3 (i_iload 3 (i_if (fun a => a = 0) (i_aload 0 (i_getR 0 1 (fun _ => 0) (i_iload 1 (i_aald (i_iload 2 (i_callV 1 4 SX0_heldPart (i_istore 4 (i_aload 0 (i_iload 4 (i_callV 1 0 SX2_isPart (i_if (fun a => a = 0) (i_push (.inl (.int (-11))) (i_iret Qr)) (i_iload 4 (i_iret Qr))))))))))))) (i_iload 3 (i_iret Qr)))))))))) lv st M
set_option maxRecDepth 100000 in
set_option maxHeartbeats 4000000 in
theorem sBX2_partLookedAt_0 {p : Program} {l : Launch} {e : Env} {s : State} {m : MethodId} {args : Array Value} {below : List Frame} {meth : Method} {c : Code} {G : Nat → Nat → Nat} {cy dC : Nat → ClassId} {dI : Nat → Nat → Nat} {Qr : Option AV → MM → Prop} (F : FX p m c cX2_partLookedAt 5 RX2 s args (AW G) G cy dC dI) (hr : meth.sig.returnType = (some .int)) (hlk : meth.locks = false) : SO p l e rmX2_partLookedAt s m args below meth c 0 0 (MQ below (QI G cy dC dI Qr) args s 0 0 (AW G)) 5 (AW G) G cy dC dI 0 (BX2_partLookedAt_0 Qr) := by
  exact (s_aload_n F dX2_partLookedAt_0 rfl (s_iload_n F dX2_partLookedAt_1 rfl (s_iload_n F dX2_partLookedAt_2 rfl (s_iconst F dX2_partLookedAt_3 (by decide) (s_callVi F dX2_partLookedAt_4 (ctX2_inWayOfCell l) (lw_V q143 q145 qs0 q1 q146) ⟨rfl, rfl⟩ (by decide +kernel) (by decide) ⟨Nat.zero_le _, Nat.zero_le _⟩ (ci := 2) rfl (fun _ _ _ _ => ⟨_, rfl⟩) (s_istore_n F dX2_partLookedAt_7 rfl (by decide) (s_iload_n F dX2_partLookedAt_8 rfl (s_if_eq F dX2_partLookedAt_9 (by decide) (s_aload_n F dX2_partLookedAt_14 rfl (s_getR F (ci := 2) (f := 0) dX2_partLookedAt_15 rfl in_X2 (by decide) q69 (fun _ _ _ _ => ⟨_, rfl, rfl⟩) (s_iload_n F dX2_partLookedAt_18 rfl (s_aald F dX2_partLookedAt_19 (s_iload_n F dX2_partLookedAt_20 rfl (s_callVi F dX2_partLookedAt_21 (ctX0_heldPart l) (lw_V q241 q242 q243 q2 q244) ⟨rfl, rfl⟩ (by decide +kernel) (by decide) ⟨Nat.zero_le _, Nat.zero_le _⟩ (ci := 0) rfl (fun _ _ _ _ => ⟨_, rfl⟩) (s_istore F dX2_partLookedAt_24 (by decide) (s_aload_n F dX2_partLookedAt_26 rfl (s_iload F dX2_partLookedAt_27 (s_callVi F dX2_partLookedAt_29 (ctX2_isPart l) (lw_V q217 q219 qs1 q1 q220) ⟨rfl, rfl⟩ (by decide +kernel) (by decide) ⟨Nat.zero_le _, Nat.zero_le _⟩ (ci := 2) rfl (fun _ _ _ _ => ⟨_, rfl⟩) (s_if_eq F dX2_partLookedAt_32 (by decide) (s_bipush F dX2_partLookedAt_40 (by decide) (s_iret F dX2_partLookedAt_42 hr hlk)) (s_iload F dX2_partLookedAt_35 (s_goto F dX2_partLookedAt_37 (by decide) (s_iret F dX2_partLookedAt_42 hr hlk)))))))))))))) (s_iload_n F dX2_partLookedAt_12 rfl (s_iret F dX2_partLookedAt_13 hr hlk))))))))))
set_option maxRecDepth 100000 in
set_option maxHeartbeats 4000000 in
theorem ctX2_partLookedAt (l : Launch) : CI l yX2_partLookedAt (ws_ yX2_partLookedAt cX2_partLookedAt 5 (some .int)) rmX2_partLookedAt SX2_partLookedAt := by
  refine mk_CI (by decide) ?_
  intro p e s m args below meth c G cy dC dI F hr hlk as M post hS
  unfold SX2_partLookedAt at hS
  split at hS
  · rename_i t i0 p0 i
    obtain ⟨rfl, rfl, hX, hS⟩ := hS
    refine ⟨by simp only [lk, wd, rm1, rm2, pick, popn, catS, pushO, aLV, cond_true, cond_false, Bool.not_true, Bool.not_false, Bool.and_true, Bool.and_false, Bool.true_and, Bool.false_and, eq_self, true_and, and_true, Nat.reduceBEq, Nat.reduceAdd, reduceIte, Nat.reduceEqDiff]; decide, sBX2_partLookedAt_0 F hr hlk _ _ _ ?_⟩
    simp only [BX2_partLookedAt_0, i_push, i_iload, i_aload, i_istore, i_if, i_getR, i_aald, i_callV, i_iret, lk, wd, rm1, rm2, pick, popn, catS, pushO, aLV, cond_true, cond_false, Bool.not_true, Bool.not_false, Bool.and_true, Bool.and_false, Bool.true_and, Bool.false_and, eq_self, true_and, and_true, Nat.reduceBEq, Nat.reduceAdd, reduceIte, Nat.reduceEqDiff, SX0_heldPart, SX2_inWayOfCell, SX2_isPart]
    try simp only [tCnt, aK, aN, aR, eq_self, true_and, and_true, Nat.reduceLeDiff, Nat.reduceEqDiff]
    have hW1 : x_way M p0 i 1 = 0 → vp_in p0 24 := fun h => (way0 hX h).2.2.2.2.2.1
    have hW2 : x_way M p0 i 1 = 0 → cl p0 < 30 := fun h => (way0 hX h).2.2.2.2.2.2.1
    have hW3 : x_way M p0 i 1 = 0 → vp_in i 40 := fun h => (way0 hX h).2.2.2.2.2.2.2
    (try simp only [b2i_0, Bool.not_eq_true, Bool.not_eq_false])
    (repeat' (first | with_reducible assumption | exact b2i_1 _ | exact hW1 (by with_reducible assumption) | exact hW2 (by with_reducible assumption) | exact hW3 (by with_reducible assumption) | apply And.intro | intro _)) <;> (first | with_reducible assumption | decide | (simpa [x_pla, *] using hS) | (simp_all [x_pla]; done))
  · exact hS.elim
def SX2_weigh : SP := fun as M post => match as with
  | [.inr (t, i0), .inl (.int p0), .inl (.int i)] => t = 0 ∧ i0 = 0 ∧ XOK M ∧ post (some (.inl (.int (x_weigh M p0 i)))) M
  | _ => False
abbrev rmX2_weigh : Room := ({ frames := 3, cells := 0, slots := 0, locals := 180 } : Room)
def BX2_weigh_0 (Qr : Option AV → MM → Prop) (lv : LV) (st : List AV) (M : MM) : Prop := (i_aload 0 (i_iload 1 (i_iload 2 (i_callV 2 0 SX2_partLookedAt (i_istore 3 (i_aload 0 (i_iload 3 (i_callV 1 0 SX2_isPart (i_if (fun a => a = 0) (i_iload 3 (i_iret Qr)) (i_aload 0 (i_getR 0 3 (fun _ => 0) (i_iload 3 (i_aald (i_callV 0 5 SX1_weighed (i_iret Qr))))))))))))))) lv st M
set_option maxRecDepth 100000 in
set_option maxHeartbeats 4000000 in
theorem sBX2_weigh_0 {p : Program} {l : Launch} {e : Env} {s : State} {m : MethodId} {args : Array Value} {below : List Frame} {meth : Method} {c : Code} {G : Nat → Nat → Nat} {cy dC : Nat → ClassId} {dI : Nat → Nat → Nat} {Qr : Option AV → MM → Prop} (F : FX p m c cX2_weigh 4 RX2 s args (AW G) G cy dC dI) (hr : meth.sig.returnType = (some .int)) (hlk : meth.locks = false) : SO p l e rmX2_weigh s m args below meth c 0 0 (MQ below (QI G cy dC dI Qr) args s 0 0 (AW G)) 4 (AW G) G cy dC dI 0 (BX2_weigh_0 Qr) := by
  exact (s_aload_n F dX2_weigh_0 rfl (s_iload_n F dX2_weigh_1 rfl (s_iload_n F dX2_weigh_2 rfl (s_callVi F dX2_weigh_3 (ctX2_partLookedAt l) (lw_V q237 q239 qs3 q1 q240) ⟨rfl, rfl⟩ (by decide +kernel) (by decide) ⟨Nat.zero_le _, Nat.zero_le _⟩ (ci := 2) rfl (fun _ _ _ _ => ⟨_, rfl⟩) (s_istore_n F dX2_weigh_6 rfl (by decide) (s_aload_n F dX2_weigh_7 rfl (s_iload_n F dX2_weigh_8 rfl (s_callVi F dX2_weigh_9 (ctX2_isPart l) (lw_V q217 q219 qs1 q1 q220) ⟨rfl, rfl⟩ (by decide +kernel) (by decide) ⟨Nat.zero_le _, Nat.zero_le _⟩ (ci := 2) rfl (fun _ _ _ _ => ⟨_, rfl⟩) (s_if_eq F dX2_weigh_12 (by decide) (s_iload_n F dX2_weigh_27 rfl (s_iret F dX2_weigh_28 hr hlk)) (s_aload_n F dX2_weigh_15 rfl (s_getR F (ci := 2) (f := 2) dX2_weigh_16 rfl in_X2 (by decide) q71 (fun _ _ _ _ => ⟨_, rfl, rfl⟩) (s_iload_n F dX2_weigh_19 rfl (s_aald F dX2_weigh_20 (s_callVi F dX2_weigh_21 (ctX1_weighed l) (lw_V q245 q246 q247 q3 q248) ⟨rfl, rfl⟩ (by decide +kernel) (by decide) ⟨Nat.zero_le _, Nat.zero_le _⟩ (ci := 1) rfl (fun _ _ _ _ => ⟨_, rfl⟩) (s_goto F dX2_weigh_24 (by decide) (s_iret F dX2_weigh_28 hr hlk))))))))))))))))
set_option maxRecDepth 100000 in
set_option maxHeartbeats 4000000 in
theorem ctX2_weigh (l : Launch) : CI l yX2_weigh (ws_ yX2_weigh cX2_weigh 4 (some .int)) rmX2_weigh SX2_weigh := by
  refine mk_CI (by decide) ?_
  intro p e s m args below meth c G cy dC dI F hr hlk as M post hS
  unfold SX2_weigh at hS
  split at hS
  · rename_i t i0 p0 i
    obtain ⟨rfl, rfl, hX, hS⟩ := hS
    refine ⟨by simp only [lk, wd, rm1, rm2, pick, popn, catS, pushO, aLV, cond_true, cond_false, Bool.not_true, Bool.not_false, Bool.and_true, Bool.and_false, Bool.true_and, Bool.false_and, eq_self, true_and, and_true, Nat.reduceBEq, Nat.reduceAdd, reduceIte, Nat.reduceEqDiff]; decide, sBX2_weigh_0 F hr hlk _ _ _ ?_⟩
    simp only [BX2_weigh_0, i_iload, i_aload, i_istore, i_if, i_getR, i_aald, i_callV, i_iret, lk, wd, rm1, rm2, pick, popn, catS, pushO, aLV, cond_true, cond_false, Bool.not_true, Bool.not_false, Bool.and_true, Bool.and_false, Bool.true_and, Bool.false_and, eq_self, true_and, and_true, Nat.reduceBEq, Nat.reduceAdd, reduceIte, Nat.reduceEqDiff, SX1_weighed, SX2_isPart, SX2_partLookedAt]
    try simp only [tCnt, aK, aN, aR, eq_self, true_and, and_true, Nat.reduceLeDiff, Nat.reduceEqDiff]
    have hT1 : ∀ j, isPt M j = true → vp_in j 40 := fun j h => (isPt_in hX.2.2 h).1
    have hT2 : ∀ j, isPt M j = true → cl j < 40 := fun j h => (isPt_in hX.2.2 h).2
    (try simp only [b2i_0, Bool.not_eq_true, Bool.not_eq_false])
    (repeat' (first | with_reducible assumption | exact b2i_1 _ | exact hT1 _ (by with_reducible assumption) | exact hT2 _ (by with_reducible assumption) | apply And.intro | intro _)) <;> (first | with_reducible assumption | decide | (simpa [x_weigh, *] using hS) | (simp_all [x_weigh]; done))
  · exact hS.elim
def SX2_rigid : SP := fun as M post => match as with
  | [.inr (t, i0), .inl (.int p0), .inl (.int i)] => t = 0 ∧ i0 = 0 ∧ XOK M ∧ post (some (.inl (.int (x_rigid M p0 i)))) M
  | _ => False
abbrev rmX2_rigid : Room := ({ frames := 3, cells := 0, slots := 0, locals := 180 } : Room)
def BX2_rigid_0 (Qr : Option AV → MM → Prop) (lv : LV) (st : List AV) (M : MM) : Prop := (i_aload 0 (i_iload 1 (i_iload 2 (i_callV 2 0 SX2_partLookedAt (i_istore 3 (i_aload 0 (i_iload 3 (i_callV 1 0 SX2_isPart (i_if (fun a => a = 0) (i_iload 3 (i_iret Qr)) (i_aload 0 (i_getR 0 3 (fun _ => 0) (i_iload 3 (i_aald (i_astore 4 (i_aload 4 (i_getI 5 0 (i_push (.inl (.int 1)) (i_cmp (fun a b => a = b) (i_aload 4 (i_getI 5 2 (i_iret Qr))) (i_push (.inl (.int (-15))) (i_iret Qr)))))))))))))))))))) lv st M
set_option maxRecDepth 100000 in
set_option maxHeartbeats 4000000 in
theorem sBX2_rigid_0 {p : Program} {l : Launch} {e : Env} {s : State} {m : MethodId} {args : Array Value} {below : List Frame} {meth : Method} {c : Code} {G : Nat → Nat → Nat} {cy dC : Nat → ClassId} {dI : Nat → Nat → Nat} {Qr : Option AV → MM → Prop} (F : FX p m c cX2_rigid 5 RX2 s args (AW G) G cy dC dI) (hr : meth.sig.returnType = (some .int)) (hlk : meth.locks = false) : SO p l e rmX2_rigid s m args below meth c 0 0 (MQ below (QI G cy dC dI Qr) args s 0 0 (AW G)) 5 (AW G) G cy dC dI 0 (BX2_rigid_0 Qr) := by
  exact (s_aload_n F dX2_rigid_0 rfl (s_iload_n F dX2_rigid_1 rfl (s_iload_n F dX2_rigid_2 rfl (s_callVi F dX2_rigid_3 (ctX2_partLookedAt l) (lw_V q237 q239 qs3 q1 q240) ⟨rfl, rfl⟩ (by decide +kernel) (by decide) ⟨Nat.zero_le _, Nat.zero_le _⟩ (ci := 2) rfl (fun _ _ _ _ => ⟨_, rfl⟩) (s_istore_n F dX2_rigid_6 rfl (by decide) (s_aload_n F dX2_rigid_7 rfl (s_iload_n F dX2_rigid_8 rfl (s_callVi F dX2_rigid_9 (ctX2_isPart l) (lw_V q217 q219 qs1 q1 q220) ⟨rfl, rfl⟩ (by decide +kernel) (by decide) ⟨Nat.zero_le _, Nat.zero_le _⟩ (ci := 2) rfl (fun _ _ _ _ => ⟨_, rfl⟩) (s_if_ne F dX2_rigid_12 (by decide) (s_aload_n F dX2_rigid_17 rfl (s_getR F (ci := 2) (f := 2) dX2_rigid_18 rfl in_X2 (by decide) q71 (fun _ _ _ _ => ⟨_, rfl, rfl⟩) (s_iload_n F dX2_rigid_21 rfl (s_aald F dX2_rigid_22 (s_astore F dX2_rigid_23 (by decide) (s_aload F dX2_rigid_25 (s_getIN F (ci := 1) (host := "MappingMoves") dX2_rigid_27 rfl in_X1 (by decide) (by decide +kernel) (fun _ _ _ _ => ⟨_, rfl, rfl⟩) (s_iconst F dX2_rigid_30 (by decide) (s_icmp_ne F dX2_rigid_31 (by decide) (s_bipush F dX2_rigid_42 (by decide) (s_iret F dX2_rigid_44 hr hlk)) (s_aload F dX2_rigid_34 (s_getIN F (ci := 1) (host := "MappingMoves") dX2_rigid_36 rfl in_X1 (by decide) (by decide +kernel) (fun _ _ _ _ => ⟨_, rfl, rfl⟩) (s_goto F dX2_rigid_39 (by decide) (s_iret F dX2_rigid_44 hr hlk))))))))))))) (s_iload_n F dX2_rigid_15 rfl (s_iret F dX2_rigid_16 hr hlk)))))))))))
set_option maxRecDepth 100000 in
set_option maxHeartbeats 4000000 in
theorem ctX2_rigid (l : Launch) : CI l yX2_rigid (ws_ yX2_rigid cX2_rigid 5 (some .int)) rmX2_rigid SX2_rigid := by
  refine mk_CI (by decide) ?_
  intro p e s m args below meth c G cy dC dI F hr hlk as M post hS
  unfold SX2_rigid at hS
  split at hS
  · rename_i t i0 p0 i
    obtain ⟨rfl, rfl, hX, hS⟩ := hS
    refine ⟨by simp only [lk, wd, rm1, rm2, pick, popn, catS, pushO, aLV, cond_true, cond_false, Bool.not_true, Bool.not_false, Bool.and_true, Bool.and_false, Bool.true_and, Bool.false_and, eq_self, true_and, and_true, Nat.reduceBEq, Nat.reduceAdd, reduceIte, Nat.reduceEqDiff]; decide, sBX2_rigid_0 F hr hlk _ _ _ ?_⟩
    simp only [BX2_rigid_0, i_push, i_iload, i_aload, i_istore, i_astore, i_if, i_cmp, i_getI, i_getR, i_aald, i_callV, i_iret, lk, wd, rm1, rm2, pick, popn, catS, pushO, aLV, cond_true, cond_false, Bool.not_true, Bool.not_false, Bool.and_true, Bool.and_false, Bool.true_and, Bool.false_and, eq_self, true_and, and_true, Nat.reduceBEq, Nat.reduceAdd, reduceIte, Nat.reduceEqDiff, SX2_isPart, SX2_partLookedAt]
    try simp only [tCnt, aK, aN, aR, eq_self, true_and, and_true, Nat.reduceLeDiff, Nat.reduceEqDiff]
    have hT1 : ∀ j, isPt M j = true → vp_in j 40 := fun j h => (isPt_in hX.2.2 h).1
    have hT2 : ∀ j, isPt M j = true → cl j < 40 := fun j h => (isPt_in hX.2.2 h).2
    (try simp only [b2i_0, Bool.not_eq_true, Bool.not_eq_false])
    (repeat' (first | with_reducible assumption | exact b2i_1 _ | exact hT1 _ (by with_reducible assumption) | exact hT2 _ (by with_reducible assumption) | apply And.intro | intro _)) <;> (first | with_reducible assumption | decide | (simpa [x_rigid, *] using hS) | (simp_all [x_rigid]; done))
  · exact hS.elim
def SX2_fault : SP := fun as M post => match as with
  | [.inr (t, i0), .inl (.int j), .inl (.int k)] => t = 0 ∧ i0 = 0 ∧ XOK M ∧ post (some (.inl (.int (x_fault M j k).1))) (x_fault M j k).2
  | _ => False
abbrev rmX2_fault : Room := ({ frames := 1, cells := 0, slots := 0, locals := 60 } : Room)
def BX2_fault_0 (Qr : Option AV → MM → Prop) (lv : LV) (st : List AV) (M : MM) : Prop := (i_aload 0 (i_iload 1 (i_callV 1 0 SX2_isPart (i_if (fun a => a = 0) (i_push (.inl (.int (-1))) (i_iret Qr)) (i_iload 2 (i_push (.inl (.int (-1))) (i_cmp (fun a b => a < b) (i_push (.inl (.int (-1))) (i_iret Qr)) (i_iload 2 (i_push (.inl (.int 9)) (i_cmp (fun a b => b < a) (i_push (.inl (.int (-1))) (i_iret Qr)) (i_aload 0 (i_getR 0 3 (fun _ => 0) (i_iload 1 (i_aald (i_iload 2 (i_putI 5 3 (i_push (.inl (.int 1)) (i_iret Qr)))))))))))))))))) lv st M
set_option maxRecDepth 100000 in
set_option maxHeartbeats 4000000 in
theorem sBX2_fault_0 {p : Program} {l : Launch} {e : Env} {s : State} {m : MethodId} {args : Array Value} {below : List Frame} {meth : Method} {c : Code} {G : Nat → Nat → Nat} {cy dC : Nat → ClassId} {dI : Nat → Nat → Nat} {Qr : Option AV → MM → Prop} (F : FX p m c cX2_fault 3 RX2 s args (AW G) G cy dC dI) (hr : meth.sig.returnType = (some .int)) (hlk : meth.locks = false) : SO p l e rmX2_fault s m args below meth c 0 0 (MQ below (QI G cy dC dI Qr) args s 0 0 (AW G)) 3 (AW G) G cy dC dI 0 (BX2_fault_0 Qr) := by
  exact (s_aload_n F dX2_fault_0 rfl (s_iload_n F dX2_fault_1 rfl (s_callVi F dX2_fault_2 (ctX2_isPart l) (lw_V q217 q219 qs1 q1 q220) ⟨rfl, rfl⟩ (by decide +kernel) (by decide) ⟨Nat.zero_le _, Nat.zero_le _⟩ (ci := 2) rfl (fun _ _ _ _ => ⟨_, rfl⟩) (s_if_eq F dX2_fault_5 (by decide) (s_iconst F dX2_fault_19 (by decide) (s_iret F dX2_fault_20 hr hlk)) (s_iload_n F dX2_fault_8 rfl (s_iconst F dX2_fault_9 (by decide) (s_icmp_lt F dX2_fault_10 (by decide) (s_iconst F dX2_fault_19 (by decide) (s_iret F dX2_fault_20 hr hlk)) (s_iload_n F dX2_fault_13 rfl (s_bipush F dX2_fault_14 (by decide) (s_icmp_le F dX2_fault_16 (by decide) (s_aload_n F dX2_fault_21 rfl (s_getR F (ci := 2) (f := 2) dX2_fault_22 rfl in_X2 (by decide) q71 (fun _ _ _ _ => ⟨_, rfl, rfl⟩) (s_iload_n F dX2_fault_25 rfl (s_aald F dX2_fault_26 (s_iload_n F dX2_fault_27 rfl (s_putIN F (ci := 1) (host := "MappingMoves") dX2_fault_28 rfl in_X1 tyX1 tyX1_ok nmX1 (by decide) (by decide +kernel) rfl (by decide +kernel) (fun _ _ _ _ _ => ⟨_, rfl, Nat.le_of_ble_eq_true rfl, rfl⟩) (s_iconst F dX2_fault_31 (by decide) (s_iret F dX2_fault_32 hr hlk)))))))) (s_iconst F dX2_fault_19 (by decide) (s_iret F dX2_fault_20 hr hlk))))))))))))
set_option maxRecDepth 100000 in
set_option maxHeartbeats 4000000 in
theorem ctX2_fault (l : Launch) : CI l yX2_fault (ws_ yX2_fault cX2_fault 3 (some .int)) rmX2_fault SX2_fault := by
  refine mk_CI (by decide) ?_
  intro p e s m args below meth c G cy dC dI F hr hlk as M post hS
  unfold SX2_fault at hS
  split at hS
  · rename_i t i0 j k
    obtain ⟨rfl, rfl, hX, hS⟩ := hS
    refine ⟨by simp only [lk, wd, rm1, rm2, pick, popn, catS, pushO, aLV, cond_true, cond_false, Bool.not_true, Bool.not_false, Bool.and_true, Bool.and_false, Bool.true_and, Bool.false_and, eq_self, true_and, and_true, Nat.reduceBEq, Nat.reduceAdd, reduceIte, Nat.reduceEqDiff]; decide, sBX2_fault_0 F hr hlk _ _ _ ?_⟩
    simp only [BX2_fault_0, i_push, i_iload, i_aload, i_if, i_cmp, i_getR, i_putI, i_aald, i_callV, i_iret, lk, wd, rm1, rm2, pick, popn, catS, pushO, aLV, cond_true, cond_false, Bool.not_true, Bool.not_false, Bool.and_true, Bool.and_false, Bool.true_and, Bool.false_and, eq_self, true_and, and_true, Nat.reduceBEq, Nat.reduceAdd, reduceIte, Nat.reduceEqDiff, SX2_isPart]
    try simp only [tCnt, aK, aN, aR, eq_self, true_and, and_true, Nat.reduceLeDiff, Nat.reduceEqDiff]
    have hT1 : ∀ j, isPt M j = true → vp_in j 40 := fun j h => (isPt_in hX.2.2 h).1
    have hT2 : ∀ j, isPt M j = true → cl j < 40 := fun j h => (isPt_in hX.2.2 h).2
    (try simp only [b2i_0, Bool.not_eq_true, Bool.not_eq_false])
    (repeat' (first | with_reducible assumption | exact b2i_1 _ | exact hT1 _ (by with_reducible assumption) | exact hT2 _ (by with_reducible assumption) | apply And.intro | intro _)) <;> (first | with_reducible assumption | decide | (simpa [x_fault, *] using hS) | (simp_all [x_fault]; done))
  · exact hS.elim
def SX2_raise : SP := fun as M post => match as with
  | [.inr (t, i0), .inl (.int p0), .inl (.int i)] => t = 0 ∧ i0 = 0 ∧ XOK M ∧ post (some (.inl (.int (x_raise M p0 i)))) M
  | _ => False
abbrev rmX2_raise : Room := ({ frames := 3, cells := 0, slots := 0, locals := 180 } : Room)
def BX2_raise_0 (Qr : Option AV → MM → Prop) (lv : LV) (st : List AV) (M : MM) : Prop := (i_aload 0 (i_iload 1 (i_iload 2 (i_callV 2 0 SX2_partLookedAt (i_istore 3 (i_aload 0 (i_iload 3 (i_callV 1 0 SX2_isPart (i_if (fun a => a = 0) (i_iload 3 (i_iret Qr)) (i_aload 0 (i_getR 0 3 (fun _ => 0) (i_iload 3 (i_aald (i_getI 5 3 (i_istore 4 (i_iload 4 (i_push (.inl (.int (-1))) (i_cmp (fun a b => a = b) (i_push (.inl (.int (-11))) (i_iret Qr)) (i_push (.inl (.int (-30))) (i_iload 4 (i_II (fun a b => a - b) (i_iret Qr)))))))))))))))))))))) lv st M
set_option maxRecDepth 100000 in
set_option maxHeartbeats 4000000 in
theorem sBX2_raise_0 {p : Program} {l : Launch} {e : Env} {s : State} {m : MethodId} {args : Array Value} {below : List Frame} {meth : Method} {c : Code} {G : Nat → Nat → Nat} {cy dC : Nat → ClassId} {dI : Nat → Nat → Nat} {Qr : Option AV → MM → Prop} (F : FX p m c cX2_raise 5 RX2 s args (AW G) G cy dC dI) (hr : meth.sig.returnType = (some .int)) (hlk : meth.locks = false) : SO p l e rmX2_raise s m args below meth c 0 0 (MQ below (QI G cy dC dI Qr) args s 0 0 (AW G)) 5 (AW G) G cy dC dI 0 (BX2_raise_0 Qr) := by
  exact (s_aload_n F dX2_raise_0 rfl (s_iload_n F dX2_raise_1 rfl (s_iload_n F dX2_raise_2 rfl (s_callVi F dX2_raise_3 (ctX2_partLookedAt l) (lw_V q237 q239 qs3 q1 q240) ⟨rfl, rfl⟩ (by decide +kernel) (by decide) ⟨Nat.zero_le _, Nat.zero_le _⟩ (ci := 2) rfl (fun _ _ _ _ => ⟨_, rfl⟩) (s_istore_n F dX2_raise_6 rfl (by decide) (s_aload_n F dX2_raise_7 rfl (s_iload_n F dX2_raise_8 rfl (s_callVi F dX2_raise_9 (ctX2_isPart l) (lw_V q217 q219 qs1 q1 q220) ⟨rfl, rfl⟩ (by decide +kernel) (by decide) ⟨Nat.zero_le _, Nat.zero_le _⟩ (ci := 2) rfl (fun _ _ _ _ => ⟨_, rfl⟩) (s_if_ne F dX2_raise_12 (by decide) (s_aload_n F dX2_raise_17 rfl (s_getR F (ci := 2) (f := 2) dX2_raise_18 rfl in_X2 (by decide) q71 (fun _ _ _ _ => ⟨_, rfl, rfl⟩) (s_iload_n F dX2_raise_21 rfl (s_aald F dX2_raise_22 (s_getIN F (ci := 1) (host := "MappingMoves") dX2_raise_23 rfl in_X1 (by decide) (by decide +kernel) (fun _ _ _ _ => ⟨_, rfl, rfl⟩) (s_istore F dX2_raise_26 (by decide) (s_iload F dX2_raise_28 (s_iconst F dX2_raise_30 (by decide) (s_icmp_ne F dX2_raise_31 (by decide) (s_bipush F dX2_raise_39 (by decide) (s_iload F dX2_raise_41 (s_isub F dX2_raise_43 (s_iret F dX2_raise_44 hr hlk)))) (s_bipush F dX2_raise_34 (by decide) (s_goto F dX2_raise_36 (by decide) (s_iret F dX2_raise_44 hr hlk)))))))))))) (s_iload_n F dX2_raise_15 rfl (s_iret F dX2_raise_16 hr hlk)))))))))))
set_option maxRecDepth 100000 in
set_option maxHeartbeats 4000000 in
theorem ctX2_raise (l : Launch) : CI l yX2_raise (ws_ yX2_raise cX2_raise 5 (some .int)) rmX2_raise SX2_raise := by
  refine mk_CI (by decide) ?_
  intro p e s m args below meth c G cy dC dI F hr hlk as M post hS
  unfold SX2_raise at hS
  split at hS
  · rename_i t i0 p0 i
    obtain ⟨rfl, rfl, hX, hS⟩ := hS
    refine ⟨by simp only [lk, wd, rm1, rm2, pick, popn, catS, pushO, aLV, cond_true, cond_false, Bool.not_true, Bool.not_false, Bool.and_true, Bool.and_false, Bool.true_and, Bool.false_and, eq_self, true_and, and_true, Nat.reduceBEq, Nat.reduceAdd, reduceIte, Nat.reduceEqDiff]; decide, sBX2_raise_0 F hr hlk _ _ _ ?_⟩
    simp only [BX2_raise_0, i_push, i_iload, i_aload, i_istore, i_II, i_if, i_cmp, i_getI, i_getR, i_aald, i_callV, i_iret, lk, wd, rm1, rm2, pick, popn, catS, pushO, aLV, cond_true, cond_false, Bool.not_true, Bool.not_false, Bool.and_true, Bool.and_false, Bool.true_and, Bool.false_and, eq_self, true_and, and_true, Nat.reduceBEq, Nat.reduceAdd, reduceIte, Nat.reduceEqDiff, SX2_isPart, SX2_partLookedAt]
    try simp only [tCnt, aK, aN, aR, eq_self, true_and, and_true, Nat.reduceLeDiff, Nat.reduceEqDiff]
    have hT1 : ∀ j, isPt M j = true → vp_in j 40 := fun j h => (isPt_in hX.2.2 h).1
    have hT2 : ∀ j, isPt M j = true → cl j < 40 := fun j h => (isPt_in hX.2.2 h).2
    (try simp only [b2i_0, Bool.not_eq_true, Bool.not_eq_false])
    (repeat' (first | with_reducible assumption | exact b2i_1 _ | exact hT1 _ (by with_reducible assumption) | exact hT2 _ (by with_reducible assumption) | apply And.intro | intro _)) <;> (first | with_reducible assumption | decide | (simpa [x_raise, *] using hS) | (simp_all [x_raise]; done))
  · exact hS.elim
def SX2_copied : SP := fun as M post => match as with
  | [.inr (t, i0)] => t = 0 ∧ i0 = 0 ∧ post (some (.inl (.int (M.1 0 0 4)))) M
  | _ => False
abbrev rmX2_copied : Room := ({ frames := 0, cells := 0, slots := 0, locals := 0 } : Room)
def BX2_copied_0 (Qr : Option AV → MM → Prop) (lv : LV) (st : List AV) (M : MM) : Prop := (i_aload 0 (i_getI 0 4 (i_iret Qr))) lv st M
set_option maxRecDepth 100000 in
set_option maxHeartbeats 4000000 in
theorem sBX2_copied_0 {p : Program} {l : Launch} {e : Env} {s : State} {m : MethodId} {args : Array Value} {below : List Frame} {meth : Method} {c : Code} {G : Nat → Nat → Nat} {cy dC : Nat → ClassId} {dI : Nat → Nat → Nat} {Qr : Option AV → MM → Prop} (F : FX p m c cX2_copied 1 RX2 s args (AW G) G cy dC dI) (hr : meth.sig.returnType = (some .int)) (hlk : meth.locks = false) : SO p l e rmX2_copied s m args below meth c 0 0 (MQ below (QI G cy dC dI Qr) args s 0 0 (AW G)) 1 (AW G) G cy dC dI 0 (BX2_copied_0 Qr) := by
  exact (s_aload_n F dX2_copied_0 rfl (s_getI F (ci := 2) dX2_copied_1 rfl in_X2 (by decide) q73 (fun _ _ _ _ => ⟨_, rfl, rfl⟩) (s_iret F dX2_copied_4 hr hlk)))
set_option maxRecDepth 100000 in
set_option maxHeartbeats 4000000 in
theorem ctX2_copied (l : Launch) : CI l yX2_copied (ws_ yX2_copied cX2_copied 1 (some .int)) rmX2_copied SX2_copied := by
  refine mk_CI (by decide) ?_
  intro p e s m args below meth c G cy dC dI F hr hlk as M post hS
  unfold SX2_copied at hS
  split at hS
  · rename_i t i0
    obtain ⟨rfl, rfl, hS⟩ := hS
    refine ⟨by simp only [lk, wd, rm1, rm2, pick, popn, catS, pushO, aLV, cond_true, cond_false, Bool.not_true, Bool.not_false, Bool.and_true, Bool.and_false, Bool.true_and, Bool.false_and, eq_self, true_and, and_true, Nat.reduceBEq, Nat.reduceAdd, reduceIte, Nat.reduceEqDiff]; decide, sBX2_copied_0 F hr hlk _ _ _ ?_⟩
    simp only [BX2_copied_0, i_aload, i_getI, i_iret, lk, wd, rm1, rm2, pick, popn, catS, pushO, aLV, cond_true, cond_false, Bool.not_true, Bool.not_false, Bool.and_true, Bool.and_false, Bool.true_and, Bool.false_and, eq_self, true_and, and_true, Nat.reduceBEq, Nat.reduceAdd, reduceIte, Nat.reduceEqDiff]
    try simp only [tCnt, aK, aN, aR, eq_self, true_and, and_true, Nat.reduceLeDiff, Nat.reduceEqDiff]
    (repeat' (first | assumption | exact b2i_1 _ | apply And.intro | intro _)) <;> (first | assumption | decide | (simp_all [b2i]; done))
  · exact hS.elim
def SX2_like : SP := fun as M post => match as with
  | [.inr (t, i0), .inl (.int p0), .inl (.int p1)] => t = 0 ∧ i0 = 0 ∧ XOK M ∧ post (some (.inl (.int (x_like M p0 p1)))) M
  | _ => False
abbrev rmX2_like : Room := ({ frames := 3, cells := 0, slots := 0, locals := 180 } : Room)
def BX2_like_0 (Qr : Option AV → MM → Prop) (lv : LV) (st : List AV) (M : MM) : Prop := (i_iload 1 (i_call 1 SX2_isPlace (i_if (fun a => a = 0) (i_push (.inl (.int (-1))) (i_iret Qr)) (i_iload 2 (i_call 1 SX2_isPlace (i_if (fun a => a = 0) (i_push (.inl (.int (-1))) (i_iret Qr)) (i_aload 0 (i_getR 0 1 (fun _ => 0) (i_iload 1 (i_aald (i_astore 3 (i_aload 0 (i_getR 0 1 (fun _ => 0) (i_iload 2 (i_aald (i_astore 4 (i_aload 3 (i_callV 0 4 SX0_isGone (i_if (fun a => a = 0) (i_aload 4 (i_callV 0 4 SX0_isGone (i_if (fun a => a = 0) (i_aload 3 (i_aload 4 (i_callV 1 4 SX0_isSameAs (i_if (fun a => a = 0) (i_push (.inl (.int 0)) (i_iret Qr)) (i_push (.inl (.int 1)) (i_iret Qr)))))) (i_push (.inl (.int (-11))) (i_iret Qr))))) (i_push (.inl (.int (-11))) (i_iret Qr))))))))))))))))))))) lv st M
set_option maxRecDepth 100000 in
set_option maxHeartbeats 4000000 in
theorem sBX2_like_0 {p : Program} {l : Launch} {e : Env} {s : State} {m : MethodId} {args : Array Value} {below : List Frame} {meth : Method} {c : Code} {G : Nat → Nat → Nat} {cy dC : Nat → ClassId} {dI : Nat → Nat → Nat} {Qr : Option AV → MM → Prop} (F : FX p m c cX2_like 5 RX2 s args (AW G) G cy dC dI) (hr : meth.sig.returnType = (some .int)) (hlk : meth.locks = false) : SO p l e rmX2_like s m args below meth c 0 0 (MQ below (QI G cy dC dI Qr) args s 0 0 (AW G)) 5 (AW G) G cy dC dI 0 (BX2_like_0 Qr) := by
  exact (s_iload_n F dX2_like_0 rfl (s_callSi F dX2_like_1 (ctX2_isPlace l) (lw_S q89 q90 q1 q91) ⟨rfl, rfl⟩ (by decide +kernel) (by decide) ⟨Nat.zero_le _, Nat.zero_le _⟩ (s_if_eq F dX2_like_4 (by decide) (s_iconst F dX2_like_14 (by decide) (s_iret F dX2_like_15 hr hlk)) (s_iload_n F dX2_like_7 rfl (s_callSi F dX2_like_8 (ctX2_isPlace l) (lw_S q89 q90 q1 q91) ⟨rfl, rfl⟩ (by decide +kernel) (by decide) ⟨Nat.zero_le _, Nat.zero_le _⟩ (s_if_ne F dX2_like_11 (by decide) (s_aload_n F dX2_like_16 rfl (s_getR F (ci := 2) (f := 0) dX2_like_17 rfl in_X2 (by decide) q69 (fun _ _ _ _ => ⟨_, rfl, rfl⟩) (s_iload_n F dX2_like_20 rfl (s_aald F dX2_like_21 (s_astore_n F dX2_like_22 rfl (by decide) (s_aload_n F dX2_like_23 rfl (s_getR F (ci := 2) (f := 0) dX2_like_24 rfl in_X2 (by decide) q69 (fun _ _ _ _ => ⟨_, rfl, rfl⟩) (s_iload_n F dX2_like_27 rfl (s_aald F dX2_like_28 (s_astore F dX2_like_29 (by decide) (s_aload_n F dX2_like_31 rfl (s_callVi F dX2_like_32 (ctX0_isGone l) (lw_V q111 q112 q113 q2 q114) ⟨rfl, rfl⟩ (by decide +kernel) (by decide) ⟨Nat.zero_le _, Nat.zero_le _⟩ (ci := 0) rfl (fun _ _ _ _ => ⟨_, rfl⟩) (s_if_ne F dX2_like_35 (by decide) (s_bipush F dX2_like_46 (by decide) (s_iret F dX2_like_48 hr hlk)) (s_aload F dX2_like_38 (s_callVi F dX2_like_40 (ctX0_isGone l) (lw_V q111 q112 q113 q2 q114) ⟨rfl, rfl⟩ (by decide +kernel) (by decide) ⟨Nat.zero_le _, Nat.zero_le _⟩ (ci := 0) rfl (fun _ _ _ _ => ⟨_, rfl⟩) (s_if_eq F dX2_like_43 (by decide) (s_aload_n F dX2_like_49 rfl (s_aload F dX2_like_50 (s_callVi F dX2_like_52 (ctX0_isSameAs l) (lw_V q305 q306 q307 q2 q308) ⟨rfl, rfl⟩ (by decide +kernel) (by decide) ⟨Nat.zero_le _, Nat.zero_le _⟩ (ci := 0) rfl (fun _ _ _ _ => ⟨_, rfl⟩) (s_if_eq F dX2_like_55 (by decide) (s_iconst F dX2_like_62 (by decide) (s_iret F dX2_like_63 hr hlk)) (s_iconst F dX2_like_58 (by decide) (s_goto F dX2_like_59 (by decide) (s_iret F dX2_like_63 hr hlk))))))) (s_bipush F dX2_like_46 (by decide) (s_iret F dX2_like_48 hr hlk)))))))))))))))))) (s_iconst F dX2_like_14 (by decide) (s_iret F dX2_like_15 hr hlk))))))))
set_option maxRecDepth 100000 in
set_option maxHeartbeats 4000000 in
theorem ctX2_like (l : Launch) : CI l yX2_like (ws_ yX2_like cX2_like 5 (some .int)) rmX2_like SX2_like := by
  refine mk_CI (by decide) ?_
  intro p e s m args below meth c G cy dC dI F hr hlk as M post hS
  unfold SX2_like at hS
  split at hS
  · rename_i t i0 p0 p1
    obtain ⟨rfl, rfl, hX, hS⟩ := hS
    refine ⟨by simp only [lk, wd, rm1, rm2, pick, popn, catS, pushO, aLV, cond_true, cond_false, Bool.not_true, Bool.not_false, Bool.and_true, Bool.and_false, Bool.true_and, Bool.false_and, eq_self, true_and, and_true, Nat.reduceBEq, Nat.reduceAdd, reduceIte, Nat.reduceEqDiff]; decide, sBX2_like_0 F hr hlk _ _ _ ?_⟩
    simp only [BX2_like_0, i_push, i_iload, i_aload, i_astore, i_if, i_getR, i_aald, i_call, i_callV, i_iret, lk, wd, rm1, rm2, pick, popn, catS, pushO, aLV, cond_true, cond_false, Bool.not_true, Bool.not_false, Bool.and_true, Bool.and_false, Bool.true_and, Bool.false_and, eq_self, true_and, and_true, Nat.reduceBEq, Nat.reduceAdd, reduceIte, Nat.reduceEqDiff, SX0_isGone, SX0_isSameAs, SX2_isPlace]
    try simp only [tCnt, aK, aN, aR, eq_self, true_and, and_true, Nat.reduceLeDiff, Nat.reduceEqDiff]
    have hP1 : ∀ p, isPl p = true → vp_in p 24 := fun p h => (isPl_in h).1
    have hP2 : ∀ p, isPl p = true → cl p < 30 := fun p h => Nat.lt_trans (isPl_in h).2 (by decide)
    have hC : ∀ p, isPl p = true → cOK M (cl p) := fun p h => hX.1 _ (hP2 p h)
    (try simp only [b2i_0, Bool.not_eq_true, Bool.not_eq_false])
    (repeat' (first | with_reducible assumption | exact b2i_1 _ | exact hP1 _ (by with_reducible assumption) | exact hP2 _ (by with_reducible assumption) | exact hC _ (by with_reducible assumption) | apply And.intro | intro _)) <;> (first | with_reducible assumption | decide | (simpa [x_like, b2i, *] using hS) | (simp_all [x_like, b2i]; done))
  · exact hS.elim
