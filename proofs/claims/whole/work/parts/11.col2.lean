def SJ7_fill_d0a16 : SP := fun as M post => match as with
  | [.inr (t, p0), .inl (.long v)] => t = 6 ∧ p0 < 30 ∧ post none (rL M 6 p0 (fun j => if j < 40 then v else M.2.1 6 p0 j))
  | _ => False
abbrev rmJ7_fill_d0a16 : Room := ({ frames := 0, cells := 0, slots := 0, locals := 0 } : Room)
def BJ7_fill_d0a16_6 (Qr : Option AV → MM → Prop) (K6 : PT) (lv : LV) (st : List AV) (M : MM) : Prop := (i_iload 3 (i_iload 4 (i_cmp (fun a b => a < b) (i_aload 0 (i_iload 3 (i_lload 1 (i_last (i_iinc 3 1 (i_cut [0, 1, 3, 4] K6)))))) (i_vret Qr)))) lv st M
set_option maxRecDepth 100000 in
set_option maxHeartbeats 4000000 in
theorem sBJ7_fill_d0a16_6 {p : Program} {l : Launch} {e : Env} {s : State} {m : MethodId} {args : Array Value} {below : List Frame} {meth : Method} {c : Code} {G : Nat → Nat → Nat} {cy dC : Nat → ClassId} {dI : Nat → Nat → Nat} {Qr : Option AV → MM → Prop} {K6 : PT} (F : FX p m c cJ7_fill_d0a16 5 RJ7 s args (AW G) G cy dC dI) (hr : meth.sig.returnType = none) (hlk : meth.locks = false) (h6 : SO p l e rmJ7_fill_d0a16 s m args below meth c 0 0 (MQ below (QV G cy dC dI Qr) args s 0 0 (AW G)) 5 (AW G) G cy dC dI 6 K6) : SO p l e rmJ7_fill_d0a16 s m args below meth c 0 0 (MQ below (QV G cy dC dI Qr) args s 0 0 (AW G)) 5 (AW G) G cy dC dI 6 (BJ7_fill_d0a16_6 Qr K6) := by
  exact (s_iload_n F dJ7_fill_d0a16_6 rfl (s_iload F dJ7_fill_d0a16_7 (s_icmp_ge F dJ7_fill_d0a16_9 (by decide) (s_vret F dJ7_fill_d0a16_22 hr hlk) (s_aload_n F dJ7_fill_d0a16_12 rfl (s_iload_n F dJ7_fill_d0a16_13 rfl (s_lload_n F dJ7_fill_d0a16_14 rfl (s_last F dJ7_fill_d0a16_15 (s_iinc F dJ7_fill_d0a16_16 (by decide) (by decide) (s_goto F dJ7_fill_d0a16_19 (by decide) (s_cut [0, 1, 3, 4] h6))))))))))
def BJ7_fill_d0a16_0 (Qr : Option AV → MM → Prop) (K6 : PT) (lv : LV) (st : List AV) (M : MM) : Prop := (i_push (.inl (.int 0)) (i_istore 3 (i_aload 0 (i_alen (i_istore 4 (i_cut [0, 1, 3, 4] K6)))))) lv st M
set_option maxRecDepth 100000 in
set_option maxHeartbeats 4000000 in
theorem sBJ7_fill_d0a16_0 {p : Program} {l : Launch} {e : Env} {s : State} {m : MethodId} {args : Array Value} {below : List Frame} {meth : Method} {c : Code} {G : Nat → Nat → Nat} {cy dC : Nat → ClassId} {dI : Nat → Nat → Nat} {Qr : Option AV → MM → Prop} {K6 : PT} (F : FX p m c cJ7_fill_d0a16 5 RJ7 s args (AW G) G cy dC dI) (hr : meth.sig.returnType = none) (hlk : meth.locks = false) (h6 : SO p l e rmJ7_fill_d0a16 s m args below meth c 0 0 (MQ below (QV G cy dC dI Qr) args s 0 0 (AW G)) 5 (AW G) G cy dC dI 6 K6) : SO p l e rmJ7_fill_d0a16 s m args below meth c 0 0 (MQ below (QV G cy dC dI Qr) args s 0 0 (AW G)) 5 (AW G) G cy dC dI 0 (BJ7_fill_d0a16_0 Qr K6) := by
  exact (s_iconst F dJ7_fill_d0a16_0 (by decide) (s_istore_n F dJ7_fill_d0a16_1 rfl (by decide) (s_aload_n F dJ7_fill_d0a16_2 rfl (s_alen F dJ7_fill_d0a16_3 (s_istore F dJ7_fill_d0a16_4 (by decide) (s_cut [0, 1, 3, 4] h6))))))
set_option maxRecDepth 100000 in
set_option maxHeartbeats 4000000 in
theorem ctJ7_fill_d0a16 (l : Launch) : CV l yJ7_fill_d0a16 (ws_ yJ7_fill_d0a16 cJ7_fill_d0a16 5 none) rmJ7_fill_d0a16 SJ7_fill_d0a16 := by
  refine mk_CV (by decide) ?_
  intro p e s m args below meth c G cy dC dI F hr hlk as M post hS
  unfold SJ7_fill_d0a16 at hS
  split at hS
  · rename_i t p0 v
    obtain ⟨rfl, hp, hS⟩ := hS
    have hL : ∀ n, SO p l e rmJ7_fill_d0a16 s m args below meth c 0 0 (MQ below (QV G cy dC dI post) args s 0 0 (AW G)) 5 (AW G) G cy dC dI 6 ((fun (n : Nat) (lv : LV) (st : List AV) (M' : MM) => ∃ i : Nat, i ≤ 40 ∧ n = 40 - i ∧ lv = [(0, .inr (6, p0)), (1, .inl (.long v)), (3, .inl (.int (nI i))), (4, .inl (.int 40))] ∧ st = [] ∧ M' = rL M 6 p0 (fun j => if j < i then v else M.2.1 6 p0 j)) n) := by
      refine SO_loop (fun K => BJ7_fill_d0a16_6 post K) (fun K hK => sBJ7_fill_d0a16_6 F hr hlk hK) (fun (n : Nat) (lv : LV) (st : List AV) (M' : MM) => ∃ i : Nat, i ≤ 40 ∧ n = 40 - i ∧ lv = [(0, .inr (6, p0)), (1, .inl (.long v)), (3, .inl (.int (nI i))), (4, .inl (.int 40))] ∧ st = [] ∧ M' = rL M 6 p0 (fun j => if j < i then v else M.2.1 6 p0 j)) ?_
      intro n lv st M' ⟨i, hi, hn, e1, e2, e3⟩
      subst e1; subst e2
      simp only [BJ7_fill_d0a16_0, BJ7_fill_d0a16_6, i_push, i_iload, i_lload, i_aload, i_istore, i_iinc, i_cmp, i_last, i_alen, i_vret, i_cut, lk, wd, rm1, rm2, pick, popn, catS, pushO, aLV, cond_true, cond_false, Bool.not_true, Bool.not_false, Bool.and_true, Bool.and_false, Bool.true_and, Bool.false_and, eq_self, true_and, and_true, Nat.reduceBEq, Nat.reduceAdd, reduceIte, Nat.reduceEqDiff]
      try simp only [tCnt, aK, aN, aR, eq_self, true_and, and_true, Nat.reduceLeDiff, Nat.reduceEqDiff]
      refine ⟨fun c => ?_, fun c => ?_⟩
      · have hlt : i < 40 := (nI_ltI (by omega) (by omega)).mp c
        refine ⟨hp, vin (n := 40) hlt (by omega), n - 1, by omega, i + 1, by omega, by omega, by rw [nI_1], ?_⟩
        subst e3
        refine MM_ext (fun _ _ _ => rfl) (fun t i2 k => ?_) (fun _ _ _ => rfl)
        rw [ncl (by omega)]
        simp only [sL, rL]
        by_cases h1 : t = 6 ∧ i2 = p0
        · obtain ⟨rfl, rfl⟩ := h1
          by_cases h2 : k = i
          · subst h2; simp
          · simp only [true_and, h2, if_false]
            simp only [and_self, if_true]
            by_cases h3 : k < i
            · rw [if_pos h3, if_pos (by omega)]
            · rw [if_neg h3, if_neg (by omega)]
        · rw [if_neg (fun q => h1 ⟨q.1, q.2.1⟩), if_neg h1, if_neg h1]
      · have hge : i = 40 := by
          have := mt (nI_ltI (a := i) (b := 40) (by omega) (by omega)).mpr c
          omega
        subst hge; subst e3
        exact hS
    refine ⟨by simp only [lk, wd, rm1, rm2, pick, popn, catS, pushO, aLV, cond_true, cond_false, Bool.not_true, Bool.not_false, Bool.and_true, Bool.and_false, Bool.true_and, Bool.false_and, eq_self, true_and, and_true, Nat.reduceBEq, Nat.reduceAdd, reduceIte, Nat.reduceEqDiff]; decide, sBJ7_fill_d0a16_0 F hr hlk (SO_or hL) _ _ _ ?_⟩
    simp only [BJ7_fill_d0a16_0, BJ7_fill_d0a16_6, i_push, i_iload, i_lload, i_aload, i_istore, i_iinc, i_cmp, i_last, i_alen, i_vret, i_cut, lk, wd, rm1, rm2, pick, popn, catS, pushO, aLV, cond_true, cond_false, Bool.not_true, Bool.not_false, Bool.and_true, Bool.and_false, Bool.true_and, Bool.false_and, eq_self, true_and, and_true, Nat.reduceBEq, Nat.reduceAdd, reduceIte, Nat.reduceEqDiff]
    try simp only [tCnt, aK, aN, aR, eq_self, true_and, and_true, Nat.reduceLeDiff, Nat.reduceEqDiff]
    refine ⟨by decide, hp, 40, 0, by omega, by omega, rfl, ?_⟩
    refine MM_ext (fun _ _ _ => rfl) (fun t i2 k => ?_) (fun _ _ _ => rfl)
    simp only [rL]
    split
    · rename_i h; obtain ⟨rfl, rfl⟩ := h; simp
    · rfl
  · exact hS.elim
def SJ7_fill_7f8df : SP := fun as M post => match as with
  | [.inr (t, p0), .inl (.double v)] => t = 7 ∧ p0 < 30 ∧ post none (rD M 7 p0 (fun j => if j < 40 then v else M.2.2 7 p0 j))
  | _ => False
abbrev rmJ7_fill_7f8df : Room := ({ frames := 0, cells := 0, slots := 0, locals := 0 } : Room)
def BJ7_fill_7f8df_6 (Qr : Option AV → MM → Prop) (K6 : PT) (lv : LV) (st : List AV) (M : MM) : Prop := (i_iload 3 (i_iload 4 (i_cmp (fun a b => a < b) (i_aload 0 (i_iload 3 (i_dload 1 (i_dast (i_iinc 3 1 (i_cut [0, 1, 3, 4] K6)))))) (i_vret Qr)))) lv st M
set_option maxRecDepth 100000 in
set_option maxHeartbeats 4000000 in
theorem sBJ7_fill_7f8df_6 {p : Program} {l : Launch} {e : Env} {s : State} {m : MethodId} {args : Array Value} {below : List Frame} {meth : Method} {c : Code} {G : Nat → Nat → Nat} {cy dC : Nat → ClassId} {dI : Nat → Nat → Nat} {Qr : Option AV → MM → Prop} {K6 : PT} (F : FX p m c cJ7_fill_7f8df 5 RJ7 s args (AW G) G cy dC dI) (hr : meth.sig.returnType = none) (hlk : meth.locks = false) (h6 : SO p l e rmJ7_fill_7f8df s m args below meth c 0 0 (MQ below (QV G cy dC dI Qr) args s 0 0 (AW G)) 5 (AW G) G cy dC dI 6 K6) : SO p l e rmJ7_fill_7f8df s m args below meth c 0 0 (MQ below (QV G cy dC dI Qr) args s 0 0 (AW G)) 5 (AW G) G cy dC dI 6 (BJ7_fill_7f8df_6 Qr K6) := by
  exact (s_iload_n F dJ7_fill_7f8df_6 rfl (s_iload F dJ7_fill_7f8df_7 (s_icmp_ge F dJ7_fill_7f8df_9 (by decide) (s_vret F dJ7_fill_7f8df_22 hr hlk) (s_aload_n F dJ7_fill_7f8df_12 rfl (s_iload_n F dJ7_fill_7f8df_13 rfl (s_dload_n F dJ7_fill_7f8df_14 rfl (s_dast F dJ7_fill_7f8df_15 (s_iinc F dJ7_fill_7f8df_16 (by decide) (by decide) (s_goto F dJ7_fill_7f8df_19 (by decide) (s_cut [0, 1, 3, 4] h6))))))))))
def BJ7_fill_7f8df_0 (Qr : Option AV → MM → Prop) (K6 : PT) (lv : LV) (st : List AV) (M : MM) : Prop := (i_push (.inl (.int 0)) (i_istore 3 (i_aload 0 (i_alen (i_istore 4 (i_cut [0, 1, 3, 4] K6)))))) lv st M
set_option maxRecDepth 100000 in
set_option maxHeartbeats 4000000 in
theorem sBJ7_fill_7f8df_0 {p : Program} {l : Launch} {e : Env} {s : State} {m : MethodId} {args : Array Value} {below : List Frame} {meth : Method} {c : Code} {G : Nat → Nat → Nat} {cy dC : Nat → ClassId} {dI : Nat → Nat → Nat} {Qr : Option AV → MM → Prop} {K6 : PT} (F : FX p m c cJ7_fill_7f8df 5 RJ7 s args (AW G) G cy dC dI) (hr : meth.sig.returnType = none) (hlk : meth.locks = false) (h6 : SO p l e rmJ7_fill_7f8df s m args below meth c 0 0 (MQ below (QV G cy dC dI Qr) args s 0 0 (AW G)) 5 (AW G) G cy dC dI 6 K6) : SO p l e rmJ7_fill_7f8df s m args below meth c 0 0 (MQ below (QV G cy dC dI Qr) args s 0 0 (AW G)) 5 (AW G) G cy dC dI 0 (BJ7_fill_7f8df_0 Qr K6) := by
  exact (s_iconst F dJ7_fill_7f8df_0 (by decide) (s_istore_n F dJ7_fill_7f8df_1 rfl (by decide) (s_aload_n F dJ7_fill_7f8df_2 rfl (s_alen F dJ7_fill_7f8df_3 (s_istore F dJ7_fill_7f8df_4 (by decide) (s_cut [0, 1, 3, 4] h6))))))
set_option maxRecDepth 100000 in
set_option maxHeartbeats 4000000 in
theorem ctJ7_fill_7f8df (l : Launch) : CV l yJ7_fill_7f8df (ws_ yJ7_fill_7f8df cJ7_fill_7f8df 5 none) rmJ7_fill_7f8df SJ7_fill_7f8df := by
  refine mk_CV (by decide) ?_
  intro p e s m args below meth c G cy dC dI F hr hlk as M post hS
  unfold SJ7_fill_7f8df at hS
  split at hS
  · rename_i t p0 v
    obtain ⟨rfl, hp, hS⟩ := hS
    have hL : ∀ n, SO p l e rmJ7_fill_7f8df s m args below meth c 0 0 (MQ below (QV G cy dC dI post) args s 0 0 (AW G)) 5 (AW G) G cy dC dI 6 ((fun (n : Nat) (lv : LV) (st : List AV) (M' : MM) => ∃ i : Nat, i ≤ 40 ∧ n = 40 - i ∧ lv = [(0, .inr (7, p0)), (1, .inl (.double v)), (3, .inl (.int (nI i))), (4, .inl (.int 40))] ∧ st = [] ∧ M' = rD M 7 p0 (fun j => if j < i then v else M.2.2 7 p0 j)) n) := by
      refine SO_loop (fun K => BJ7_fill_7f8df_6 post K) (fun K hK => sBJ7_fill_7f8df_6 F hr hlk hK) (fun (n : Nat) (lv : LV) (st : List AV) (M' : MM) => ∃ i : Nat, i ≤ 40 ∧ n = 40 - i ∧ lv = [(0, .inr (7, p0)), (1, .inl (.double v)), (3, .inl (.int (nI i))), (4, .inl (.int 40))] ∧ st = [] ∧ M' = rD M 7 p0 (fun j => if j < i then v else M.2.2 7 p0 j)) ?_
      intro n lv st M' ⟨i, hi, hn, e1, e2, e3⟩
      subst e1; subst e2
      simp only [BJ7_fill_7f8df_0, BJ7_fill_7f8df_6, i_push, i_iload, i_dload, i_aload, i_istore, i_iinc, i_cmp, i_dast, i_alen, i_vret, i_cut, lk, wd, rm1, rm2, pick, popn, catS, pushO, aLV, cond_true, cond_false, Bool.not_true, Bool.not_false, Bool.and_true, Bool.and_false, Bool.true_and, Bool.false_and, eq_self, true_and, and_true, Nat.reduceBEq, Nat.reduceAdd, reduceIte, Nat.reduceEqDiff]
      try simp only [tCnt, aK, aN, aR, eq_self, true_and, and_true, Nat.reduceLeDiff, Nat.reduceEqDiff]
      refine ⟨fun c => ?_, fun c => ?_⟩
      · have hlt : i < 40 := (nI_ltI (by omega) (by omega)).mp c
        refine ⟨hp, vin (n := 40) hlt (by omega), n - 1, by omega, i + 1, by omega, by omega, by rw [nI_1], ?_⟩
        subst e3
        refine MM_ext (fun _ _ _ => rfl) (fun _ _ _ => rfl) (fun t i2 k => ?_)
        rw [ncl (by omega)]
        simp only [sD, rD]
        by_cases h1 : t = 7 ∧ i2 = p0
        · obtain ⟨rfl, rfl⟩ := h1
          by_cases h2 : k = i
          · subst h2; simp
          · simp only [true_and, h2, if_false]
            simp only [and_self, if_true]
            by_cases h3 : k < i
            · rw [if_pos h3, if_pos (by omega)]
            · rw [if_neg h3, if_neg (by omega)]
        · rw [if_neg (fun q => h1 ⟨q.1, q.2.1⟩), if_neg h1, if_neg h1]
      · have hge : i = 40 := by
          have := mt (nI_ltI (a := i) (b := 40) (by omega) (by omega)).mpr c
          omega
        subst hge; subst e3
        exact hS
    refine ⟨by simp only [lk, wd, rm1, rm2, pick, popn, catS, pushO, aLV, cond_true, cond_false, Bool.not_true, Bool.not_false, Bool.and_true, Bool.and_false, Bool.true_and, Bool.false_and, eq_self, true_and, and_true, Nat.reduceBEq, Nat.reduceAdd, reduceIte, Nat.reduceEqDiff]; decide, sBJ7_fill_7f8df_0 F hr hlk (SO_or hL) _ _ _ ?_⟩
    simp only [BJ7_fill_7f8df_0, BJ7_fill_7f8df_6, i_push, i_iload, i_dload, i_aload, i_istore, i_iinc, i_cmp, i_dast, i_alen, i_vret, i_cut, lk, wd, rm1, rm2, pick, popn, catS, pushO, aLV, cond_true, cond_false, Bool.not_true, Bool.not_false, Bool.and_true, Bool.and_false, Bool.true_and, Bool.false_and, eq_self, true_and, and_true, Nat.reduceBEq, Nat.reduceAdd, reduceIte, Nat.reduceEqDiff]
    try simp only [tCnt, aK, aN, aR, eq_self, true_and, and_true, Nat.reduceLeDiff, Nat.reduceEqDiff]
    refine ⟨by decide, hp, 40, 0, by omega, by omega, rfl, ?_⟩
    refine MM_ext (fun _ _ _ => rfl) (fun _ _ _ => rfl) (fun t i2 k => ?_)
    simp only [rD]
    split
    · rename_i h; obtain ⟨rfl, rfl⟩ := h; simp
    · rfl
  · exact hS.elim
def SX0_begin : SP := fun as M post => match as with
  | [.inr (t, p0), .inl (.int k), .inl (.int n)] => t = 4 ∧ p0 < 30 ∧ post none (c_begin M p0 k n)
  | _ => False
abbrev rmX0_begin : Room := ({ frames := 1, cells := 0, slots := 0, locals := 60 } : Room)
def BX0_begin_28 (Qr : Option AV → MM → Prop) (lv : LV) (st : List AV) (M : MM) : Prop := (i_call 2 SJ7_fill_d0a16 (i_aload 0 (i_getR 4 7 (fun i => i) (i_push (.inl (.double 0)) (i_call 2 SJ7_fill_7f8df (i_vret Qr)))))) lv st M
set_option maxRecDepth 100000 in
set_option maxHeartbeats 4000000 in
theorem sBX0_begin_28 {p : Program} {l : Launch} {e : Env} {s : State} {m : MethodId} {args : Array Value} {below : List Frame} {meth : Method} {c : Code} {G : Nat → Nat → Nat} {cy dC : Nat → ClassId} {dI : Nat → Nat → Nat} {Qr : Option AV → MM → Prop} (F : FX p m c cX0_begin 3 RX0 s args (AW G) G cy dC dI) (hr : meth.sig.returnType = none) (hlk : meth.locks = false) : SO p l e rmX0_begin s m args below meth c 0 0 (MQ below (QV G cy dC dI Qr) args s 0 0 (AW G)) 3 (AW G) G cy dC dI 28 (BX0_begin_28 Qr) := by
  exact (s_callSv F dX0_begin_28 (ctJ7_fill_d0a16 l) (lw_S q101 q102 q5 q103) ⟨rfl, rfl⟩ (by decide +kernel) (by decide) ⟨Nat.zero_le _, Nat.zero_le _⟩ (s_aload_n F dX0_begin_31 rfl (s_getR F (ci := 0) (f := 3) dX0_begin_32 rfl in_X0 (by decide) q36 (fun _ _ _ _ => ⟨_, rfl, rfl⟩) (s_dconst0 F dX0_begin_35 (s_callSv F dX0_begin_36 (ctJ7_fill_7f8df l) (lw_S q104 q105 q5 q106) ⟨rfl, rfl⟩ (by decide +kernel) (by decide) ⟨Nat.zero_le _, Nat.zero_le _⟩ (s_vret F dX0_begin_39 hr hlk))))))
def BX0_begin_0 (Qr : Option AV → MM → Prop) (lv : LV) (st : List AV) (M : MM) : Prop := (i_aload 0 (i_iload 1 (i_putI 4 0 (i_aload 0 (i_iload 2 (i_putI 4 1 (i_aload 0 (i_getR 4 6 (fun i => i) (i_aload 0 (i_callV 0 4 SX0_isShelf (i_if (fun a => a = 0) (i_push (.inl (.long 0)) (i_cut [0] (BX0_begin_28 Qr))) (i_push (.inl (.long (-1))) (i_cut [0] (BX0_begin_28 Qr)))))))))))))) lv st M
set_option maxRecDepth 100000 in
set_option maxHeartbeats 4000000 in
theorem sBX0_begin_0 {p : Program} {l : Launch} {e : Env} {s : State} {m : MethodId} {args : Array Value} {below : List Frame} {meth : Method} {c : Code} {G : Nat → Nat → Nat} {cy dC : Nat → ClassId} {dI : Nat → Nat → Nat} {Qr : Option AV → MM → Prop} (F : FX p m c cX0_begin 3 RX0 s args (AW G) G cy dC dI) (hr : meth.sig.returnType = none) (hlk : meth.locks = false) : SO p l e rmX0_begin s m args below meth c 0 0 (MQ below (QV G cy dC dI Qr) args s 0 0 (AW G)) 3 (AW G) G cy dC dI 0 (BX0_begin_0 Qr) := by
  exact (s_aload_n F dX0_begin_0 rfl (s_iload_n F dX0_begin_1 rfl (s_putI F (ci := 0) dX0_begin_2 rfl in_X0 tyX0 tyX0_ok nmX0 (by decide) q31 rfl (by decide +kernel) (fun _ _ _ _ _ => ⟨_, rfl, Nat.le_of_ble_eq_true rfl, rfl⟩) (s_aload_n F dX0_begin_5 rfl (s_iload_n F dX0_begin_6 rfl (s_putI F (ci := 0) dX0_begin_7 rfl in_X0 tyX0 tyX0_ok nmX0 (by decide) q33 rfl (by decide +kernel) (fun _ _ _ _ _ => ⟨_, rfl, Nat.le_of_ble_eq_true rfl, rfl⟩) (s_aload_n F dX0_begin_10 rfl (s_getR F (ci := 0) (f := 2) dX0_begin_11 rfl in_X0 (by decide) q35 (fun _ _ _ _ => ⟨_, rfl, rfl⟩) (s_aload_n F dX0_begin_14 rfl (s_callVi F dX0_begin_15 (ctX0_isShelf l) (lw_V q96 q97 q98 q2 q99) ⟨rfl, rfl⟩ (by decide +kernel) (by decide) ⟨Nat.zero_le _, Nat.zero_le _⟩ (ci := 0) rfl (fun _ _ _ _ => ⟨_, rfl⟩) (s_if_eq F dX0_begin_18 (by decide) (s_lconst F dX0_begin_27 (by decide) (s_cut [0] (sBX0_begin_28 F hr hlk))) (s_ldc2 F dX0_begin_21 q100 (s_goto F dX0_begin_24 (by decide) (s_cut [0] (sBX0_begin_28 F hr hlk)))))))))))))))
set_option maxRecDepth 100000 in
set_option maxHeartbeats 4000000 in
theorem ctX0_begin (l : Launch) : CV l yX0_begin (ws_ yX0_begin cX0_begin 3 none) rmX0_begin SX0_begin := by
  refine mk_CV (by decide) ?_
  intro p e s m args below meth c G cy dC dI F hr hlk as M post hS
  unfold SX0_begin at hS
  split at hS
  · rename_i t p0 k n
    obtain ⟨rfl, hp, hS⟩ := hS
    refine ⟨by simp only [lk, wd, rm1, rm2, pick, popn, catS, pushO, aLV, cond_true, cond_false, Bool.not_true, Bool.not_false, Bool.and_true, Bool.and_false, Bool.true_and, Bool.false_and, eq_self, true_and, and_true, Nat.reduceBEq, Nat.reduceAdd, reduceIte, Nat.reduceEqDiff]; decide, sBX0_begin_0 F hr hlk _ _ _ ?_⟩
    simp only [BX0_begin_0, BX0_begin_28, i_push, i_iload, i_aload, i_if, i_getR, i_putI, i_call, i_callV, i_vret, i_cut, lk, wd, rm1, rm2, pick, popn, catS, pushO, aLV, cond_true, cond_false, Bool.not_true, Bool.not_false, Bool.and_true, Bool.and_false, Bool.true_and, Bool.false_and, eq_self, true_and, and_true, Nat.reduceBEq, Nat.reduceAdd, reduceIte, Nat.reduceEqDiff, SJ7_fill_7f8df, SJ7_fill_d0a16, SX0_isShelf]
    try simp only [tCnt, aK, aN, aR, eq_self, true_and, and_true, Nat.reduceLeDiff, Nat.reduceEqDiff]
    have e0 : (sI (sI M 4 p0 0 k) 4 p0 1 n).1 4 p0 0 = k := by simp [sI]
    simp only [e0, b2i_0, Decidable.not_not]
    (repeat' (first | assumption | exact b2i_1 _ | apply And.intro | intro _)) <;> (first | assumption | decide | (simpa [c_begin, sI, rL, rD, *] using hS) | (simp_all [b2i, c_begin, sI, rL, rD]; done))
  · exact hS.elim
def SX0_takeCells : SP := fun as M post => match as with
  | [.inr (t, p0), .inr (t2, s0), .inl (.int a), .inl (.int b), .inl (.int n)] => t = 4 ∧ p0 < 30 ∧ t2 = 4 ∧ s0 < 30 ∧ ¬ a < 0 ∧ ¬ b < 0 ∧ ¬ n < 0 ∧ a.toNatClampNeg + n.toNatClampNeg ≤ 40 ∧ b.toNatClampNeg + n.toNatClampNeg ≤ 40 ∧ post none (c_take M p0 s0 a.toNatClampNeg b.toNatClampNeg n.toNatClampNeg)
  | _ => False
abbrev rmX0_takeCells : Room := ({ frames := 1, cells := 0, slots := 0, locals := 60 } : Room)
def BX0_takeCells_0 (Qr : Option AV → MM → Prop) (lv : LV) (st : List AV) (M : MM) : Prop := (i_aload 1 (i_getR 4 6 (fun i => i) (i_iload 2 (i_aload 0 (i_getR 4 6 (fun i => i) (i_iload 3 (i_iload 4 (i_cpL (i_aload 1 (i_getR 4 7 (fun i => i) (i_iload 2 (i_aload 0 (i_getR 4 7 (fun i => i) (i_iload 3 (i_iload 4 (i_cpD (i_vret Qr))))))))))))))))) lv st M
set_option maxRecDepth 100000 in
set_option maxHeartbeats 4000000 in
theorem sBX0_takeCells_0 {p : Program} {l : Launch} {e : Env} {s : State} {m : MethodId} {args : Array Value} {below : List Frame} {meth : Method} {c : Code} {G : Nat → Nat → Nat} {cy dC : Nat → ClassId} {dI : Nat → Nat → Nat} {Qr : Option AV → MM → Prop} (F : FX p m c cX0_takeCells 5 RX0 s args (AW G) G cy dC dI) (hr : meth.sig.returnType = none) (hlk : meth.locks = false) : SO p l e rmX0_takeCells s m args below meth c 0 0 (MQ below (QV G cy dC dI Qr) args s 0 0 (AW G)) 5 (AW G) G cy dC dI 0 (BX0_takeCells_0 Qr) := by
  exact (s_aload_n F dX0_takeCells_0 rfl (s_getR F (ci := 0) (f := 2) dX0_takeCells_1 rfl in_X0 (by decide) q35 (fun _ _ _ _ => ⟨_, rfl, rfl⟩) (s_iload_n F dX0_takeCells_4 rfl (s_aload_n F dX0_takeCells_5 rfl (s_getR F (ci := 0) (f := 2) dX0_takeCells_6 rfl in_X0 (by decide) q35 (fun _ _ _ _ => ⟨_, rfl, rfl⟩) (s_iload_n F dX0_takeCells_9 rfl (s_iload F dX0_takeCells_10 (s_cpL F dX0_takeCells_12 q273 (by decide) (s_aload_n F dX0_takeCells_15 rfl (s_getR F (ci := 0) (f := 3) dX0_takeCells_16 rfl in_X0 (by decide) q36 (fun _ _ _ _ => ⟨_, rfl, rfl⟩) (s_iload_n F dX0_takeCells_19 rfl (s_aload_n F dX0_takeCells_20 rfl (s_getR F (ci := 0) (f := 3) dX0_takeCells_21 rfl in_X0 (by decide) q36 (fun _ _ _ _ => ⟨_, rfl, rfl⟩) (s_iload_n F dX0_takeCells_24 rfl (s_iload F dX0_takeCells_25 (s_cpD F dX0_takeCells_27 q273 (by decide) (s_vret F dX0_takeCells_30 hr hlk)))))))))))))))))
set_option maxRecDepth 100000 in
set_option maxHeartbeats 4000000 in
theorem ctX0_takeCells (l : Launch) : CV l yX0_takeCells (ws_ yX0_takeCells cX0_takeCells 5 none) rmX0_takeCells SX0_takeCells := by
  refine mk_CV (by decide) ?_
  intro p e s m args below meth c G cy dC dI F hr hlk as M post hS
  unfold SX0_takeCells at hS
  split at hS
  · rename_i t p0 t2 s0 a b n
    obtain ⟨rfl, hp, rfl, hs, h1, h2, h3, h4, h5, hS⟩ := hS
    refine ⟨by simp only [lk, wd, rm1, rm2, pick, popn, catS, pushO, aLV, cond_true, cond_false, Bool.not_true, Bool.not_false, Bool.and_true, Bool.and_false, Bool.true_and, Bool.false_and, eq_self, true_and, and_true, Nat.reduceBEq, Nat.reduceAdd, reduceIte, Nat.reduceEqDiff]; decide, sBX0_takeCells_0 F hr hlk _ _ _ ?_⟩
    simp only [BX0_takeCells_0, i_iload, i_aload, i_getR, i_cpL, i_cpD, i_vret, lk, wd, rm1, rm2, pick, popn, catS, pushO, aLV, cond_true, cond_false, Bool.not_true, Bool.not_false, Bool.and_true, Bool.and_false, Bool.true_and, Bool.false_and, eq_self, true_and, and_true, Nat.reduceBEq, Nat.reduceAdd, reduceIte, Nat.reduceEqDiff]
    try simp only [tCnt, aK, aN, aR, eq_self, true_and, and_true, Nat.reduceLeDiff, Nat.reduceEqDiff]
    (repeat' (first | assumption | exact b2i_1 _ | apply And.intro | intro _)) <;> (first | assumption | decide | (simpa [c_take, rL, rD, *] using hS) | (simp_all [b2i, c_take, rL, rD]; done))
  · exact hS.elim
def SX0_becomeLike : SP := fun as M post => match as with
  | [.inr (t, p0), .inr (t2, s0)] => t = 4 ∧ p0 < 30 ∧ t2 = 4 ∧ s0 < 30 ∧ post none (c_like M p0 s0)
  | _ => False
abbrev rmX0_becomeLike : Room := ({ frames := 2, cells := 0, slots := 0, locals := 120 } : Room)
def BX0_becomeLike_0 (Qr : Option AV → MM → Prop) (lv : LV) (st : List AV) (M : MM) : Prop := (i_aload 0 (i_aload 1 (i_getI 4 0 (i_putI 4 0 (i_aload 0 (i_aload 1 (i_getI 4 1 (i_putI 4 1 (i_aload 0 (i_aload 1 (i_push (.inl (.int 0)) (i_push (.inl (.int 0)) (i_push (.inl (.int 40)) (i_callV 4 4 SX0_takeCells (i_vret Qr))))))))))))))) lv st M
set_option maxRecDepth 100000 in
set_option maxHeartbeats 4000000 in
theorem sBX0_becomeLike_0 {p : Program} {l : Launch} {e : Env} {s : State} {m : MethodId} {args : Array Value} {below : List Frame} {meth : Method} {c : Code} {G : Nat → Nat → Nat} {cy dC : Nat → ClassId} {dI : Nat → Nat → Nat} {Qr : Option AV → MM → Prop} (F : FX p m c cX0_becomeLike 2 RX0 s args (AW G) G cy dC dI) (hr : meth.sig.returnType = none) (hlk : meth.locks = false) : SO p l e rmX0_becomeLike s m args below meth c 0 0 (MQ below (QV G cy dC dI Qr) args s 0 0 (AW G)) 2 (AW G) G cy dC dI 0 (BX0_becomeLike_0 Qr) := by
  exact (s_aload_n F dX0_becomeLike_0 rfl (s_aload_n F dX0_becomeLike_1 rfl (s_getI F (ci := 0) dX0_becomeLike_2 rfl in_X0 (by decide) q31 (fun _ _ _ _ => ⟨_, rfl, rfl⟩) (s_putI F (ci := 0) dX0_becomeLike_5 rfl in_X0 tyX0 tyX0_ok nmX0 (by decide) q31 rfl (by decide +kernel) (fun _ _ _ _ _ => ⟨_, rfl, Nat.le_of_ble_eq_true rfl, rfl⟩) (s_aload_n F dX0_becomeLike_8 rfl (s_aload_n F dX0_becomeLike_9 rfl (s_getI F (ci := 0) dX0_becomeLike_10 rfl in_X0 (by decide) q33 (fun _ _ _ _ => ⟨_, rfl, rfl⟩) (s_putI F (ci := 0) dX0_becomeLike_13 rfl in_X0 tyX0 tyX0_ok nmX0 (by decide) q33 rfl (by decide +kernel) (fun _ _ _ _ _ => ⟨_, rfl, Nat.le_of_ble_eq_true rfl, rfl⟩) (s_aload_n F dX0_becomeLike_16 rfl (s_aload_n F dX0_becomeLike_17 rfl (s_iconst F dX0_becomeLike_18 (by decide) (s_iconst F dX0_becomeLike_19 (by decide) (s_bipush F dX0_becomeLike_20 (by decide) (s_callVv F dX0_becomeLike_22 (ctX0_takeCells l) (lw_V q296 q270 q271 q2 q272) ⟨rfl, rfl⟩ (by decide +kernel) (by decide) ⟨Nat.zero_le _, Nat.zero_le _⟩ (ci := 0) rfl (fun _ _ _ _ => ⟨_, rfl⟩) (s_vret F dX0_becomeLike_25 hr hlk)))))))))))))))
set_option maxRecDepth 100000 in
set_option maxHeartbeats 4000000 in
theorem ctX0_becomeLike (l : Launch) : CV l yX0_becomeLike (ws_ yX0_becomeLike cX0_becomeLike 2 none) rmX0_becomeLike SX0_becomeLike := by
  refine mk_CV (by decide) ?_
  intro p e s m args below meth c G cy dC dI F hr hlk as M post hS
  unfold SX0_becomeLike at hS
  split at hS
  · rename_i t p0 t2 s0
    obtain ⟨rfl, hp, rfl, hs, hS⟩ := hS
    refine ⟨by simp only [lk, wd, rm1, rm2, pick, popn, catS, pushO, aLV, cond_true, cond_false, Bool.not_true, Bool.not_false, Bool.and_true, Bool.and_false, Bool.true_and, Bool.false_and, eq_self, true_and, and_true, Nat.reduceBEq, Nat.reduceAdd, reduceIte, Nat.reduceEqDiff]; decide, sBX0_becomeLike_0 F hr hlk _ _ _ ?_⟩
    simp only [BX0_becomeLike_0, i_push, i_aload, i_getI, i_putI, i_callV, i_vret, lk, wd, rm1, rm2, pick, popn, catS, pushO, aLV, cond_true, cond_false, Bool.not_true, Bool.not_false, Bool.and_true, Bool.and_false, Bool.true_and, Bool.false_and, eq_self, true_and, and_true, Nat.reduceBEq, Nat.reduceAdd, reduceIte, Nat.reduceEqDiff, SX0_takeCells]
    try simp only [tCnt, aK, aN, aR, eq_self, true_and, and_true, Nat.reduceLeDiff, Nat.reduceEqDiff]
    (repeat' (first | assumption | exact b2i_1 _ | apply And.intro | intro _)) <;> (first | assumption | decide | (simpa [c_like, c_take, sI, rL, rD, *] using hS) | (simp_all [b2i, c_like, c_take, sI, rL, rD]; done))
  · exact hS.elim
def SX0_lowestBits : SP := fun as M post => match as with
  | [.inl (.long v), .inl (.int k)] => post (some (.inl (.long (lowB v k)))) M
  | _ => False
abbrev rmX0_lowestBits : Room := ({ frames := 0, cells := 0, slots := 0, locals := 0 } : Room)
theorem tsw_X0_lowestBits_1 (x : Int32) : (¬ x.toInt < 0 ∧ ¬ 3 < x.toInt ∧ ∃ off, (#[31, 36, 41, 46] : Array Int)[(x.toInt - 0).toNat]? = some off ∧ ((1 : Nat) : Int) + off = (((if x = 0 then 32 else if x = 1 then 37 else if x = 2 then 42 else if x = 3 then 47 else 51) : Nat) : Int)) ∨ ((x.toInt < 0 ∨ 3 < x.toInt) ∧ (if x = 0 then 32 else if x = 1 then 37 else if x = 2 then 42 else if x = 3 then 47 else 51) = 51) := by
  by_cases e0 : x = 0
  · subst e0; exact Or.inl ⟨by decide, by decide, _, rfl, by decide⟩
  by_cases e1 : x = 1
  · subst e1; exact Or.inl ⟨by decide, by decide, _, rfl, by decide⟩
  by_cases e2 : x = 2
  · subst e2; exact Or.inl ⟨by decide, by decide, _, rfl, by decide⟩
  by_cases e3 : x = 3
  · subst e3; exact Or.inl ⟨by decide, by decide, _, rfl, by decide⟩
  right
  have n0 := lv_neT e0 (a := 0) (by decide)
  have n1 := lv_neT e1 (a := 1) (by decide)
  have n2 := lv_neT e2 (a := 2) (by decide)
  have n3 := lv_neT e3 (a := 3) (by decide)
  exact ⟨by omega, by simp only [if_neg e0, if_neg e1, if_neg e2, if_neg e3]⟩
def BX0_lowestBits_0 (Qr : Option AV → MM → Prop) (lv : LV) (st : List AV) (M : MM) : Prop := (i_iload 2 (i_sw [(0, (i_lload 0 (i_L (fun a => .inl (.int a.toInt32)) (i_I (fun a => .inl (.int a.toInt8.toInt32)) (i_I (fun a => .inl (.long a.toInt64)) (i_lret Qr)))))), (1, (i_lload 0 (i_L (fun a => .inl (.int a.toInt32)) (i_I (fun a => .inl (.int a.toInt16.toInt32)) (i_I (fun a => .inl (.long a.toInt64)) (i_lret Qr)))))), (2, (i_lload 0 (i_L (fun a => .inl (.int a.toInt32)) (i_I (fun a => .inl (.int (a.toUInt32 % 65536).toInt32)) (i_I (fun a => .inl (.long a.toInt64)) (i_lret Qr)))))), (3, (i_lload 0 (i_L (fun a => .inl (.int a.toInt32)) (i_I (fun a => .inl (.long a.toInt64)) (i_lret Qr)))))] (i_lload 0 (i_lret Qr)))) lv st M
set_option maxRecDepth 100000 in
set_option maxHeartbeats 4000000 in
theorem sBX0_lowestBits_0 {p : Program} {l : Launch} {e : Env} {s : State} {m : MethodId} {args : Array Value} {below : List Frame} {meth : Method} {c : Code} {G : Nat → Nat → Nat} {cy dC : Nat → ClassId} {dI : Nat → Nat → Nat} {Qr : Option AV → MM → Prop} (F : FX p m c cX0_lowestBits 3 RX0 s args (AW G) G cy dC dI) (hr : meth.sig.returnType = (some .long)) (hlk : meth.locks = false) : SO p l e rmX0_lowestBits s m args below meth c 0 0 (MQ below (QL G cy dC dI Qr) args s 0 0 (AW G)) 3 (AW G) G cy dC dI 0 (BX0_lowestBits_0 Qr) := by
  exact (s_iload_n F dX0_lowestBits_0 rfl (s_tsw F [(0, (i_lload 0 (i_L (fun a => .inl (.int a.toInt32)) (i_I (fun a => .inl (.int a.toInt8.toInt32)) (i_I (fun a => .inl (.long a.toInt64)) (i_lret Qr)))))), (1, (i_lload 0 (i_L (fun a => .inl (.int a.toInt32)) (i_I (fun a => .inl (.int a.toInt16.toInt32)) (i_I (fun a => .inl (.long a.toInt64)) (i_lret Qr)))))), (2, (i_lload 0 (i_L (fun a => .inl (.int a.toInt32)) (i_I (fun a => .inl (.int (a.toUInt32 % 65536).toInt32)) (i_I (fun a => .inl (.long a.toInt64)) (i_lret Qr)))))), (3, (i_lload 0 (i_L (fun a => .inl (.int a.toInt32)) (i_I (fun a => .inl (.long a.toInt64)) (i_lret Qr)))))] (fun x => if x = 0 then 32 else if x = 1 then 37 else if x = 2 then 42 else if x = 3 then 47 else 51) 51 dX0_lowestBits_1 (by decide) (tsw_X0_lowestBits_1) (List.forall_mem_cons.mpr ⟨(show SO _ _ _ _ _ _ _ _ _ _ _ _ _ _ _ _ _ _ _ 32 _ from (s_lload_n F dX0_lowestBits_32 rfl (s_l2i F dX0_lowestBits_33 (s_i2b F dX0_lowestBits_34 (s_i2l F dX0_lowestBits_35 (s_lret F dX0_lowestBits_36 hr hlk)))))), (List.forall_mem_cons.mpr ⟨(show SO _ _ _ _ _ _ _ _ _ _ _ _ _ _ _ _ _ _ _ 37 _ from (s_lload_n F dX0_lowestBits_37 rfl (s_l2i F dX0_lowestBits_38 (s_i2s F dX0_lowestBits_39 (s_i2l F dX0_lowestBits_40 (s_lret F dX0_lowestBits_41 hr hlk)))))), (List.forall_mem_cons.mpr ⟨(show SO _ _ _ _ _ _ _ _ _ _ _ _ _ _ _ _ _ _ _ 42 _ from (s_lload_n F dX0_lowestBits_42 rfl (s_l2i F dX0_lowestBits_43 (s_i2c F dX0_lowestBits_44 (s_i2l F dX0_lowestBits_45 (s_lret F dX0_lowestBits_46 hr hlk)))))), (List.forall_mem_cons.mpr ⟨(show SO _ _ _ _ _ _ _ _ _ _ _ _ _ _ _ _ _ _ _ 47 _ from (s_lload_n F dX0_lowestBits_47 rfl (s_l2i F dX0_lowestBits_48 (s_i2l F dX0_lowestBits_49 (s_lret F dX0_lowestBits_50 hr hlk))))), fun _ hq => nomatch hq⟩)⟩)⟩)⟩) (fun x hx => by have hx2 := hx; simp only [List.forall_mem_cons] at hx2; obtain ⟨e0, e1, e2, e3, -⟩ := hx2; have hgo : (if x = 0 then 32 else if x = 1 then 37 else if x = 2 then 42 else if x = 3 then 47 else 51) = 51 := (by simp only [if_neg e0, if_neg e1, if_neg e2, if_neg e3]); show SO _ _ _ _ _ _ _ _ _ _ _ _ _ _ _ _ _ _ _ (if x = 0 then 32 else if x = 1 then 37 else if x = 2 then 42 else if x = 3 then 47 else 51) _; rw [hgo]; exact (s_lload_n F dX0_lowestBits_51 rfl (s_lret F dX0_lowestBits_52 hr hlk)))))
set_option maxRecDepth 100000 in
set_option maxHeartbeats 4000000 in
theorem ctX0_lowestBits (l : Launch) : CL l yX0_lowestBits (ws_ yX0_lowestBits cX0_lowestBits 3 (some .long)) rmX0_lowestBits SX0_lowestBits := by
  refine mk_CL (by decide) ?_
  intro p e s m args below meth c G cy dC dI F hr hlk as M post hS
  unfold SX0_lowestBits at hS
  split at hS
  · rename_i v k
    refine ⟨by simp only [lk, wd, rm1, rm2, pick, popn, catS, pushO, aLV, cond_true, cond_false, Bool.not_true, Bool.not_false, Bool.and_true, Bool.and_false, Bool.true_and, Bool.false_and, eq_self, true_and, and_true, Nat.reduceBEq, Nat.reduceAdd, reduceIte, Nat.reduceEqDiff]; decide, sBX0_lowestBits_0 F hr hlk _ _ _ ?_⟩
    simp only [BX0_lowestBits_0, i_iload, i_lload, i_I, i_L, i_sw, i_lret, i_swc, lk, wd, rm1, rm2, pick, popn, catS, pushO, aLV, cond_true, cond_false, Bool.not_true, Bool.not_false, Bool.and_true, Bool.and_false, Bool.true_and, Bool.false_and, eq_self, true_and, and_true, Nat.reduceBEq, Nat.reduceAdd, reduceIte, Nat.reduceEqDiff]
    try simp only [tCnt, aK, aN, aR, eq_self, true_and, and_true, Nat.reduceLeDiff, Nat.reduceEqDiff]
    (repeat' (first | assumption | exact b2i_1 _ | apply And.intro | intro _)) <;> (first | assumption | decide | (simpa [lowB, *] using hS) | (simp_all [b2i, lowB]; done))
  · exact hS.elim
def SX0_setNumber : SP := fun as M post => match as with
  | [.inr (t, p0), .inl (.int i), .inl (.long v)] => t = 4 ∧ p0 < 30 ∧ vp_in i 40 ∧ post none (c_set M p0 i.toNatClampNeg v)
  | _ => False
abbrev rmX0_setNumber : Room := ({ frames := 1, cells := 0, slots := 0, locals := 60 } : Room)
def BX0_setNumber_0 (Qr : Option AV → MM → Prop) (lv : LV) (st : List AV) (M : MM) : Prop := (i_aload 0 (i_getI 4 0 (i_push (.inl (.int 5)) (i_cmp (fun a b => a = b) (i_aload 0 (i_getR 4 7 (fun i => i) (i_iload 1 (i_lload 2 (i_L (fun a => .inl (.float (FP.l2f a))) (i_push (.inl (.float 1090519040)) (i_fdiv (i_f2d (i_dast (i_vret Qr)))))))))) (i_aload 0 (i_getI 4 0 (i_push (.inl (.int 6)) (i_cmp (fun a b => a = b) (i_aload 0 (i_getR 4 7 (fun i => i) (i_iload 1 (i_lload 2 (i_L (fun a => .inl (.double (FP.l2d a))) (i_push (.inl (.double 4620693217682128896)) (i_ddiv (i_dast (i_vret Qr))))))))) (i_aload 0 (i_getR 4 6 (fun i => i) (i_iload 1 (i_lload 2 (i_aload 0 (i_getI 4 0 (i_call 2 SX0_lowestBits (i_last (i_vret Qr))))))))))))))))) lv st M
set_option maxRecDepth 100000 in
set_option maxHeartbeats 4000000 in
theorem sBX0_setNumber_0 {p : Program} {l : Launch} {e : Env} {s : State} {m : MethodId} {args : Array Value} {below : List Frame} {meth : Method} {c : Code} {G : Nat → Nat → Nat} {cy dC : Nat → ClassId} {dI : Nat → Nat → Nat} {Qr : Option AV → MM → Prop} (F : FX p m c cX0_setNumber 4 RX0 s args (AW G) G cy dC dI) (hr : meth.sig.returnType = none) (hlk : meth.locks = false) : SO p l e rmX0_setNumber s m args below meth c 0 0 (MQ below (QV G cy dC dI Qr) args s 0 0 (AW G)) 4 (AW G) G cy dC dI 0 (BX0_setNumber_0 Qr) := by
  exact (s_aload_n F dX0_setNumber_0 rfl (s_getI F (ci := 0) dX0_setNumber_1 rfl in_X0 (by decide) q31 (fun _ _ _ _ => ⟨_, rfl, rfl⟩) (s_iconst F dX0_setNumber_4 (by decide) (s_icmp_ne F dX0_setNumber_5 (by decide) (s_aload_n F dX0_setNumber_23 rfl (s_getI F (ci := 0) dX0_setNumber_24 rfl in_X0 (by decide) q31 (fun _ _ _ _ => ⟨_, rfl, rfl⟩) (s_bipush F dX0_setNumber_27 (by decide) (s_icmp_ne F dX0_setNumber_29 (by decide) (s_aload_n F dX0_setNumber_47 rfl (s_getR F (ci := 0) (f := 2) dX0_setNumber_48 rfl in_X0 (by decide) q35 (fun _ _ _ _ => ⟨_, rfl, rfl⟩) (s_iload_n F dX0_setNumber_51 rfl (s_lload_n F dX0_setNumber_52 rfl (s_aload_n F dX0_setNumber_53 rfl (s_getI F (ci := 0) dX0_setNumber_54 rfl in_X0 (by decide) q31 (fun _ _ _ _ => ⟨_, rfl, rfl⟩) (s_callSl F dX0_setNumber_57 (ctX0_lowestBits l) (lw_S q158 q159 q2 q160) ⟨rfl, rfl⟩ (by decide +kernel) (by decide) ⟨Nat.zero_le _, Nat.zero_le _⟩ (s_last F dX0_setNumber_60 (s_vret F dX0_setNumber_61 hr hlk))))))))) (s_aload_n F dX0_setNumber_32 rfl (s_getR F (ci := 0) (f := 3) dX0_setNumber_33 rfl in_X0 (by decide) q36 (fun _ _ _ _ => ⟨_, rfl, rfl⟩) (s_iload_n F dX0_setNumber_36 rfl (s_lload_n F dX0_setNumber_37 rfl (s_l2d F dX0_setNumber_38 (s_ldc2d F dX0_setNumber_39 q157 (s_ddiv F dX0_setNumber_42 (s_dast F dX0_setNumber_43 (s_goto F dX0_setNumber_44 (by decide) (s_vret F dX0_setNumber_61 hr hlk)))))))))))))) (s_aload_n F dX0_setNumber_8 rfl (s_getR F (ci := 0) (f := 3) dX0_setNumber_9 rfl in_X0 (by decide) q36 (fun _ _ _ _ => ⟨_, rfl, rfl⟩) (s_iload_n F dX0_setNumber_12 rfl (s_lload_n F dX0_setNumber_13 rfl (s_l2f F dX0_setNumber_14 (s_ldcf F dX0_setNumber_15 q156 (s_fdiv F dX0_setNumber_17 (s_f2d F dX0_setNumber_18 (s_dast F dX0_setNumber_19 (s_goto F dX0_setNumber_20 (by decide) (s_vret F dX0_setNumber_61 hr hlk)))))))))))))))
set_option maxRecDepth 100000 in
set_option maxHeartbeats 4000000 in
theorem ctX0_setNumber (l : Launch) : CV l yX0_setNumber (ws_ yX0_setNumber cX0_setNumber 4 none) rmX0_setNumber SX0_setNumber := by
  refine mk_CV (by decide) ?_
  intro p e s m args below meth c G cy dC dI F hr hlk as M post hS
  unfold SX0_setNumber at hS
  split at hS
  · rename_i t p0 i v
    obtain ⟨rfl, hp, hi, hS⟩ := hS
    refine ⟨by simp only [lk, wd, rm1, rm2, pick, popn, catS, pushO, aLV, cond_true, cond_false, Bool.not_true, Bool.not_false, Bool.and_true, Bool.and_false, Bool.true_and, Bool.false_and, eq_self, true_and, and_true, Nat.reduceBEq, Nat.reduceAdd, reduceIte, Nat.reduceEqDiff]; decide, sBX0_setNumber_0 F hr hlk _ _ _ ?_⟩
    simp only [BX0_setNumber_0, i_push, i_iload, i_lload, i_aload, i_L, i_f2d, i_fdiv, i_ddiv, i_cmp, i_getI, i_getR, i_last, i_dast, i_call, i_vret, lk, wd, rm1, rm2, pick, popn, catS, pushO, aLV, cond_true, cond_false, Bool.not_true, Bool.not_false, Bool.and_true, Bool.and_false, Bool.true_and, Bool.false_and, eq_self, true_and, and_true, Nat.reduceBEq, Nat.reduceAdd, reduceIte, Nat.reduceEqDiff, SX0_lowestBits]
    try simp only [tCnt, aK, aN, aR, eq_self, true_and, and_true, Nat.reduceLeDiff, Nat.reduceEqDiff]
    have f5 := fp_put5 v; have f5a := f5.1; have f5b := f5.2; have f6 := fp_put6 v
    (repeat' (first | assumption | exact b2i_1 _ | apply And.intro | intro _)) <;> (first | assumption | decide | (simpa [c_set, *] using hS) | (simp_all [b2i, c_set]; done))
  · exact hS.elim
def SX0_tells : SP := fun as M post => match as with
  | [.inr (t, p0), .inl (.int i)] => t = 4 ∧ p0 < 30 ∧ vp_in i 40 ∧ GR (M.2.2 7 p0 i.toNatClampNeg) ∧ post (some (.inl (.long (xT M p0 i.toNatClampNeg)))) M
  | _ => False
abbrev rmX0_tells : Room := ({ frames := 2, cells := 0, slots := 0, locals := 120 } : Room)
def BX0_tells_0 (Qr : Option AV → MM → Prop) (lv : LV) (st : List AV) (M : MM) : Prop := (i_aload 0 (i_callV 0 4 SX0_isOfReals (i_if (fun a => a = 0) (i_aload 0 (i_getR 4 6 (fun i => i) (i_iload 1 (i_lald (i_lret Qr))))) (i_aload 0 (i_getR 4 7 (fun i => i) (i_iload 1 (i_dald (i_push (.inl (.double 4620693217682128896)) (i_dmul (i_D (fun a => .inl (.long (FP.d2l a))) (i_lret Qr))))))))))) lv st M
set_option maxRecDepth 100000 in
set_option maxHeartbeats 4000000 in
theorem sBX0_tells_0 {p : Program} {l : Launch} {e : Env} {s : State} {m : MethodId} {args : Array Value} {below : List Frame} {meth : Method} {c : Code} {G : Nat → Nat → Nat} {cy dC : Nat → ClassId} {dI : Nat → Nat → Nat} {Qr : Option AV → MM → Prop} (F : FX p m c cX0_tells 2 RX0 s args (AW G) G cy dC dI) (hr : meth.sig.returnType = (some .long)) (hlk : meth.locks = false) : SO p l e rmX0_tells s m args below meth c 0 0 (MQ below (QL G cy dC dI Qr) args s 0 0 (AW G)) 2 (AW G) G cy dC dI 0 (BX0_tells_0 Qr) := by
  exact (s_aload_n F dX0_tells_0 rfl (s_callVi F dX0_tells_1 (ctX0_isOfReals l) (lw_V q176 q177 q178 q2 q179) ⟨rfl, rfl⟩ (by decide +kernel) (by decide) ⟨Nat.zero_le _, Nat.zero_le _⟩ (ci := 0) rfl (fun _ _ _ _ => ⟨_, rfl⟩) (s_if_eq F dX0_tells_4 (by decide) (s_aload_n F dX0_tells_21 rfl (s_getR F (ci := 0) (f := 2) dX0_tells_22 rfl in_X0 (by decide) q35 (fun _ _ _ _ => ⟨_, rfl, rfl⟩) (s_iload_n F dX0_tells_25 rfl (s_lald F dX0_tells_26 (s_lret F dX0_tells_27 hr hlk))))) (s_aload_n F dX0_tells_7 rfl (s_getR F (ci := 0) (f := 3) dX0_tells_8 rfl in_X0 (by decide) q36 (fun _ _ _ _ => ⟨_, rfl, rfl⟩) (s_iload_n F dX0_tells_11 rfl (s_dald F dX0_tells_12 (s_ldc2d F dX0_tells_13 q157 (s_dmul F dX0_tells_16 (s_d2l F dX0_tells_17 (s_goto F dX0_tells_18 (by decide) (s_lret F dX0_tells_27 hr hlk))))))))))))
set_option maxRecDepth 100000 in
set_option maxHeartbeats 4000000 in
theorem ctX0_tells (l : Launch) : CL l yX0_tells (ws_ yX0_tells cX0_tells 2 (some .long)) rmX0_tells SX0_tells := by
  refine mk_CL (by decide) ?_
  intro p e s m args below meth c G cy dC dI F hr hlk as M post hS
  unfold SX0_tells at hS
  split at hS
  · rename_i t p0 i
    obtain ⟨rfl, hp, hi, hg, hS⟩ := hS
    refine ⟨by simp only [lk, wd, rm1, rm2, pick, popn, catS, pushO, aLV, cond_true, cond_false, Bool.not_true, Bool.not_false, Bool.and_true, Bool.and_false, Bool.true_and, Bool.false_and, eq_self, true_and, and_true, Nat.reduceBEq, Nat.reduceAdd, reduceIte, Nat.reduceEqDiff]; decide, sBX0_tells_0 F hr hlk _ _ _ ?_⟩
    simp only [BX0_tells_0, i_push, i_iload, i_aload, i_D, i_dmul, i_if, i_getR, i_lald, i_dald, i_callV, i_lret, lk, wd, rm1, rm2, pick, popn, catS, pushO, aLV, cond_true, cond_false, Bool.not_true, Bool.not_false, Bool.and_true, Bool.and_false, Bool.true_and, Bool.false_and, eq_self, true_and, and_true, Nat.reduceBEq, Nat.reduceAdd, reduceIte, Nat.reduceEqDiff, SX0_isOfReals]
    try simp only [tCnt, aK, aN, aR, eq_self, true_and, and_true, Nat.reduceLeDiff, Nat.reduceEqDiff]
    have hg1 := hg.1
    simp only [b2i_0]
    (repeat' (first | assumption | exact b2i_1 _ | apply And.intro | intro _)) <;> (first | assumption | decide | (simpa [xT, *] using hS) | (simp_all [b2i, xT]; done))
  · exact hS.elim
def SX0_isJust : SP := fun as M post => match as with
  | [.inl (.double d), .inl (.long w)] => post (some (.inl (.int (b2i (isJ d w = true))))) M
  | _ => False
abbrev rmX0_isJust : Room := ({ frames := 0, cells := 0, slots := 0, locals := 0 } : Room)
def BX0_isJust_0 (Qr : Option AV → MM → Prop) (lv : LV) (st : List AV) (M : MM) : Prop := (i_dload 0 (i_push (.inl (.double 4890909195324358656)) (i_dcmp .g (i_if (fun a => a < 0) (i_lload 2 (i_L (fun a => .inl (.double (FP.l2d a))) (i_dload 0 (i_dcmp .l (i_if (fun a => a = 0) (i_dload 0 (i_D (fun a => .inl (.long (FP.d2l a))) (i_lload 2 (i_lcmp (i_if (fun a => a = 0) (i_push (.inl (.int 1)) (i_zret Qr)) (i_push (.inl (.int 0)) (i_zret Qr))))))) (i_push (.inl (.int 0)) (i_zret Qr))))))) (i_push (.inl (.int 0)) (i_zret Qr)))))) lv st M
set_option maxRecDepth 100000 in
set_option maxHeartbeats 4000000 in
theorem sBX0_isJust_0 {p : Program} {l : Launch} {e : Env} {s : State} {m : MethodId} {args : Array Value} {below : List Frame} {meth : Method} {c : Code} {G : Nat → Nat → Nat} {cy dC : Nat → ClassId} {dI : Nat → Nat → Nat} {Qr : Option AV → MM → Prop} (F : FX p m c cX0_isJust 4 RX0 s args (AW G) G cy dC dI) (hr : meth.sig.returnType = (some .boolean)) (hlk : meth.locks = false) : SO p l e rmX0_isJust s m args below meth c 0 0 (MQ below (QI G cy dC dI Qr) args s 0 0 (AW G)) 4 (AW G) G cy dC dI 0 (BX0_isJust_0 Qr) := by
  exact (s_dload_n F dX0_isJust_0 rfl (s_ldc2d F dX0_isJust_1 q197 (s_dcmp F dX0_isJust_4 (s_if_ge F dX0_isJust_5 (by decide) (s_iconst F dX0_isJust_26 (by decide) (s_zret F dX0_isJust_27 hr hlk)) (s_lload_n F dX0_isJust_8 rfl (s_l2d F dX0_isJust_9 (s_dload_n F dX0_isJust_10 rfl (s_dcmp F dX0_isJust_11 (s_if_ne F dX0_isJust_12 (by decide) (s_iconst F dX0_isJust_26 (by decide) (s_zret F dX0_isJust_27 hr hlk)) (s_dload_n F dX0_isJust_15 rfl (s_d2l F dX0_isJust_16 (s_lload_n F dX0_isJust_17 rfl (s_lcmp F dX0_isJust_18 (s_if_ne F dX0_isJust_19 (by decide) (s_iconst F dX0_isJust_26 (by decide) (s_zret F dX0_isJust_27 hr hlk)) (s_iconst F dX0_isJust_22 (by decide) (s_goto F dX0_isJust_23 (by decide) (s_zret F dX0_isJust_27 hr hlk)))))))))))))))))
set_option maxRecDepth 100000 in
set_option maxHeartbeats 4000000 in
theorem ctX0_isJust (l : Launch) : CI l yX0_isJust (ws_ yX0_isJust cX0_isJust 4 (some .boolean)) rmX0_isJust SX0_isJust := by
  refine mk_CI (by decide) ?_
  intro p e s m args below meth c G cy dC dI F hr hlk as M post hS
  unfold SX0_isJust at hS
  split at hS
  · rename_i d w
    refine ⟨by simp only [lk, wd, rm1, rm2, pick, popn, catS, pushO, aLV, cond_true, cond_false, Bool.not_true, Bool.not_false, Bool.and_true, Bool.and_false, Bool.true_and, Bool.false_and, eq_self, true_and, and_true, Nat.reduceBEq, Nat.reduceAdd, reduceIte, Nat.reduceEqDiff]; decide, sBX0_isJust_0 F hr hlk _ _ _ ?_⟩
    simp only [BX0_isJust_0, i_push, i_lload, i_dload, i_lcmp, i_dcmp, i_L, i_D, i_if, i_zret, lk, wd, rm1, rm2, pick, popn, catS, pushO, aLV, cond_true, cond_false, Bool.not_true, Bool.not_false, Bool.and_true, Bool.and_false, Bool.true_and, Bool.false_and, eq_self, true_and, and_true, Nat.reduceBEq, Nat.reduceAdd, reduceIte, Nat.reduceEqDiff]
    try simp only [tCnt, aK, aN, aR, eq_self, true_and, and_true, Nat.reduceLeDiff, Nat.reduceEqDiff]
    (repeat' (first | assumption | exact b2i_1 _ | apply And.intro | intro _)) <;> (first | assumption | decide | (simpa [isJ, b2i, *] using hS) | (simp_all [b2i, isJ, b2i]; done))
  · exact hS.elim
def SX0_wholeFits : SP := fun as M post => match as with
  | [.inl (.long w), .inl (.int k)] => post (some (.inl (.int (b2i (wF w k = true))))) M
  | _ => False
abbrev rmX0_wholeFits : Room := ({ frames := 1, cells := 0, slots := 0, locals := 60 } : Room)
theorem lsw_X0_wholeFits_1 (x : Int32) : ((1 : Nat) : Int) + Op.lookupswitch.offset (#[(5, 27), (6, 35)] : Array (Int × Int)).toList 42 x.toInt = (((if x = 5 then 28 else if x = 6 then 36 else 43) : Nat) : Int) := by
  by_cases e0 : x = 5
  · subst e0; decide
  by_cases e1 : x = 6
  · subst e1; decide
  show ((1 : Nat) : Int) + Op.lookupswitch.offset [(5, 27), (6, 35)] 42 x.toInt = _
  rw [lv_osw e0 (by decide), lv_osw e1 (by decide), if_neg e0, if_neg e1]
  rfl
def BX0_wholeFits_0 (Qr : Option AV → MM → Prop) (lv : LV) (st : List AV) (M : MM) : Prop := (i_iload 2 (i_sw [(5, (i_lload 0 (i_L (fun a => .inl (.float (FP.l2f a))) (i_f2d (i_lload 0 (i_call 2 SX0_isJust (i_zret Qr))))))), (6, (i_lload 0 (i_L (fun a => .inl (.double (FP.l2d a))) (i_lload 0 (i_call 2 SX0_isJust (i_zret Qr))))))] (i_lload 0 (i_iload 2 (i_call 2 SX0_lowestBits (i_lload 0 (i_lcmp (i_if (fun a => a = 0) (i_push (.inl (.int 1)) (i_zret Qr)) (i_push (.inl (.int 0)) (i_zret Qr)))))))))) lv st M
set_option maxRecDepth 100000 in
set_option maxHeartbeats 4000000 in
theorem sBX0_wholeFits_0 {p : Program} {l : Launch} {e : Env} {s : State} {m : MethodId} {args : Array Value} {below : List Frame} {meth : Method} {c : Code} {G : Nat → Nat → Nat} {cy dC : Nat → ClassId} {dI : Nat → Nat → Nat} {Qr : Option AV → MM → Prop} (F : FX p m c cX0_wholeFits 3 RX0 s args (AW G) G cy dC dI) (hr : meth.sig.returnType = (some .boolean)) (hlk : meth.locks = false) : SO p l e rmX0_wholeFits s m args below meth c 0 0 (MQ below (QI G cy dC dI Qr) args s 0 0 (AW G)) 3 (AW G) G cy dC dI 0 (BX0_wholeFits_0 Qr) := by
  exact (s_iload_n F dX0_wholeFits_0 rfl (s_lsw F [(5, (i_lload 0 (i_L (fun a => .inl (.float (FP.l2f a))) (i_f2d (i_lload 0 (i_call 2 SX0_isJust (i_zret Qr))))))), (6, (i_lload 0 (i_L (fun a => .inl (.double (FP.l2d a))) (i_lload 0 (i_call 2 SX0_isJust (i_zret Qr))))))] (fun x => if x = 5 then 28 else if x = 6 then 36 else 43) dX0_wholeFits_1 (by decide) (lsw_X0_wholeFits_1) (List.forall_mem_cons.mpr ⟨(show SO _ _ _ _ _ _ _ _ _ _ _ _ _ _ _ _ _ _ _ 28 _ from (s_lload_n F dX0_wholeFits_28 rfl (s_l2f F dX0_wholeFits_29 (s_f2d F dX0_wholeFits_30 (s_lload_n F dX0_wholeFits_31 rfl (s_callSi F dX0_wholeFits_32 (ctX0_isJust l) (lw_S q194 q195 q2 q196) ⟨rfl, rfl⟩ (by decide +kernel) (by decide) ⟨Nat.zero_le _, Nat.zero_le _⟩ (s_zret F dX0_wholeFits_35 hr hlk))))))), (List.forall_mem_cons.mpr ⟨(show SO _ _ _ _ _ _ _ _ _ _ _ _ _ _ _ _ _ _ _ 36 _ from (s_lload_n F dX0_wholeFits_36 rfl (s_l2d F dX0_wholeFits_37 (s_lload_n F dX0_wholeFits_38 rfl (s_callSi F dX0_wholeFits_39 (ctX0_isJust l) (lw_S q194 q195 q2 q196) ⟨rfl, rfl⟩ (by decide +kernel) (by decide) ⟨Nat.zero_le _, Nat.zero_le _⟩ (s_zret F dX0_wholeFits_42 hr hlk)))))), fun _ hq => nomatch hq⟩)⟩) (fun x hx => by have hx2 := hx; simp only [List.forall_mem_cons] at hx2; obtain ⟨e0, e1, -⟩ := hx2; have hgo : (if x = 5 then 28 else if x = 6 then 36 else 43) = 43 := (by simp only [if_neg e0, if_neg e1]); show SO _ _ _ _ _ _ _ _ _ _ _ _ _ _ _ _ _ _ _ (if x = 5 then 28 else if x = 6 then 36 else 43) _; rw [hgo]; exact (s_lload_n F dX0_wholeFits_43 rfl (s_iload_n F dX0_wholeFits_44 rfl (s_callSl F dX0_wholeFits_45 (ctX0_lowestBits l) (lw_S q158 q159 q2 q160) ⟨rfl, rfl⟩ (by decide +kernel) (by decide) ⟨Nat.zero_le _, Nat.zero_le _⟩ (s_lload_n F dX0_wholeFits_48 rfl (s_lcmp F dX0_wholeFits_49 (s_if_ne F dX0_wholeFits_50 (by decide) (s_iconst F dX0_wholeFits_57 (by decide) (s_zret F dX0_wholeFits_58 hr hlk)) (s_iconst F dX0_wholeFits_53 (by decide) (s_goto F dX0_wholeFits_54 (by decide) (s_zret F dX0_wholeFits_58 hr hlk))))))))))))
set_option maxRecDepth 100000 in
set_option maxHeartbeats 4000000 in
theorem ctX0_wholeFits (l : Launch) : CI l yX0_wholeFits (ws_ yX0_wholeFits cX0_wholeFits 3 (some .boolean)) rmX0_wholeFits SX0_wholeFits := by
  refine mk_CI (by decide) ?_
  intro p e s m args below meth c G cy dC dI F hr hlk as M post hS
  unfold SX0_wholeFits at hS
  split at hS
  · rename_i w k
    refine ⟨by simp only [lk, wd, rm1, rm2, pick, popn, catS, pushO, aLV, cond_true, cond_false, Bool.not_true, Bool.not_false, Bool.and_true, Bool.and_false, Bool.true_and, Bool.false_and, eq_self, true_and, and_true, Nat.reduceBEq, Nat.reduceAdd, reduceIte, Nat.reduceEqDiff]; decide, sBX0_wholeFits_0 F hr hlk _ _ _ ?_⟩
    simp only [BX0_wholeFits_0, i_push, i_iload, i_lload, i_lcmp, i_L, i_f2d, i_if, i_sw, i_call, i_zret, i_swc, lk, wd, rm1, rm2, pick, popn, catS, pushO, aLV, cond_true, cond_false, Bool.not_true, Bool.not_false, Bool.and_true, Bool.and_false, Bool.true_and, Bool.false_and, eq_self, true_and, and_true, Nat.reduceBEq, Nat.reduceAdd, reduceIte, Nat.reduceEqDiff, SX0_isJust, SX0_lowestBits]
    try simp only [tCnt, aK, aN, aR, eq_self, true_and, and_true, Nat.reduceLeDiff, Nat.reduceEqDiff]
    have f5 := fp_w5 w
    (repeat' (first | assumption | exact b2i_1 _ | apply And.intro | intro _)) <;> (first | assumption | decide | (simpa [wF, b2i, *] using hS) | (simp_all [b2i, wF, b2i]; done))
  · exact hS.elim
def SX0_realFits : SP := fun as M post => match as with
  | [.inl (.double d), .inl (.int k)] => vf_n32 (FP.d2f d) ∧ vf_n64 (FP.f2d (FP.d2f d)) ∧ post (some (.inl (.int (b2i (rF d k = true))))) M
  | _ => False
abbrev rmX0_realFits : Room := ({ frames := 2, cells := 0, slots := 0, locals := 120 } : Room)
theorem lsw_X0_realFits_1 (x : Int32) : ((1 : Nat) : Int) + Op.lookupswitch.offset (#[(5, 27), (6, 41)] : Array (Int × Int)).toList 43 x.toInt = (((if x = 5 then 28 else if x = 6 then 42 else 44) : Nat) : Int) := by
  by_cases e0 : x = 5
  · subst e0; decide
  by_cases e1 : x = 6
  · subst e1; decide
  show ((1 : Nat) : Int) + Op.lookupswitch.offset [(5, 27), (6, 41)] 43 x.toInt = _
  rw [lv_osw e0 (by decide), lv_osw e1 (by decide), if_neg e0, if_neg e1]
  rfl
def BX0_realFits_0 (Qr : Option AV → MM → Prop) (lv : LV) (st : List AV) (M : MM) : Prop := (i_iload 2 (i_sw [(5, (i_dload 0 (i_d2f (i_f2d (i_dload 0 (i_dcmp .l (i_if (fun a => a = 0) (i_push (.inl (.int 1)) (i_zret Qr)) (i_push (.inl (.int 0)) (i_zret Qr))))))))), (6, (i_push (.inl (.int 1)) (i_zret Qr)))] (i_dload 0 (i_dload 0 (i_D (fun a => .inl (.long (FP.d2l a))) (i_call 2 SX0_isJust (i_if (fun a => a = 0) (i_push (.inl (.int 0)) (i_zret Qr)) (i_dload 0 (i_D (fun a => .inl (.long (FP.d2l a))) (i_iload 2 (i_call 2 SX0_wholeFits (i_if (fun a => a = 0) (i_push (.inl (.int 0)) (i_zret Qr)) (i_push (.inl (.int 1)) (i_zret Qr)))))))))))))) lv st M
set_option maxRecDepth 100000 in
set_option maxHeartbeats 4000000 in
theorem sBX0_realFits_0 {p : Program} {l : Launch} {e : Env} {s : State} {m : MethodId} {args : Array Value} {below : List Frame} {meth : Method} {c : Code} {G : Nat → Nat → Nat} {cy dC : Nat → ClassId} {dI : Nat → Nat → Nat} {Qr : Option AV → MM → Prop} (F : FX p m c cX0_realFits 3 RX0 s args (AW G) G cy dC dI) (hr : meth.sig.returnType = (some .boolean)) (hlk : meth.locks = false) : SO p l e rmX0_realFits s m args below meth c 0 0 (MQ below (QI G cy dC dI Qr) args s 0 0 (AW G)) 3 (AW G) G cy dC dI 0 (BX0_realFits_0 Qr) := by
  exact (s_iload_n F dX0_realFits_0 rfl (s_lsw F [(5, (i_dload 0 (i_d2f (i_f2d (i_dload 0 (i_dcmp .l (i_if (fun a => a = 0) (i_push (.inl (.int 1)) (i_zret Qr)) (i_push (.inl (.int 0)) (i_zret Qr))))))))), (6, (i_push (.inl (.int 1)) (i_zret Qr)))] (fun x => if x = 5 then 28 else if x = 6 then 42 else 44) dX0_realFits_1 (by decide) (lsw_X0_realFits_1) (List.forall_mem_cons.mpr ⟨(show SO _ _ _ _ _ _ _ _ _ _ _ _ _ _ _ _ _ _ _ 28 _ from (s_dload_n F dX0_realFits_28 rfl (s_d2f F dX0_realFits_29 (s_f2d F dX0_realFits_30 (s_dload_n F dX0_realFits_31 rfl (s_dcmp F dX0_realFits_32 (s_if_ne F dX0_realFits_33 (by decide) (s_iconst F dX0_realFits_40 (by decide) (s_zret F dX0_realFits_41 hr hlk)) (s_iconst F dX0_realFits_36 (by decide) (s_goto F dX0_realFits_37 (by decide) (s_zret F dX0_realFits_41 hr hlk)))))))))), (List.forall_mem_cons.mpr ⟨(show SO _ _ _ _ _ _ _ _ _ _ _ _ _ _ _ _ _ _ _ 42 _ from (s_iconst F dX0_realFits_42 (by decide) (s_zret F dX0_realFits_43 hr hlk))), fun _ hq => nomatch hq⟩)⟩) (fun x hx => by have hx2 := hx; simp only [List.forall_mem_cons] at hx2; obtain ⟨e0, e1, -⟩ := hx2; have hgo : (if x = 5 then 28 else if x = 6 then 42 else 44) = 44 := (by simp only [if_neg e0, if_neg e1]); show SO _ _ _ _ _ _ _ _ _ _ _ _ _ _ _ _ _ _ _ (if x = 5 then 28 else if x = 6 then 42 else 44) _; rw [hgo]; exact (s_dload_n F dX0_realFits_44 rfl (s_dload_n F dX0_realFits_45 rfl (s_d2l F dX0_realFits_46 (s_callSi F dX0_realFits_47 (ctX0_isJust l) (lw_S q194 q195 q2 q196) ⟨rfl, rfl⟩ (by decide +kernel) (by decide) ⟨Nat.zero_le _, Nat.zero_le _⟩ (s_if_eq F dX0_realFits_50 (by decide) (s_iconst F dX0_realFits_66 (by decide) (s_zret F dX0_realFits_67 hr hlk)) (s_dload_n F dX0_realFits_53 rfl (s_d2l F dX0_realFits_54 (s_iload_n F dX0_realFits_55 rfl (s_callSi F dX0_realFits_56 (ctX0_wholeFits l) (lw_S q198 q199 q2 q200) ⟨rfl, rfl⟩ (by decide +kernel) (by decide) ⟨Nat.zero_le _, Nat.zero_le _⟩ (s_if_eq F dX0_realFits_59 (by decide) (s_iconst F dX0_realFits_66 (by decide) (s_zret F dX0_realFits_67 hr hlk)) (s_iconst F dX0_realFits_62 (by decide) (s_goto F dX0_realFits_63 (by decide) (s_zret F dX0_realFits_67 hr hlk))))))))))))))))
set_option maxRecDepth 100000 in
set_option maxHeartbeats 4000000 in
theorem ctX0_realFits (l : Launch) : CI l yX0_realFits (ws_ yX0_realFits cX0_realFits 3 (some .boolean)) rmX0_realFits SX0_realFits := by
  refine mk_CI (by decide) ?_
  intro p e s m args below meth c G cy dC dI F hr hlk as M post hS
  unfold SX0_realFits at hS
  split at hS
  · rename_i d k
    obtain ⟨g1, g2, hS⟩ := hS
    refine ⟨by simp only [lk, wd, rm1, rm2, pick, popn, catS, pushO, aLV, cond_true, cond_false, Bool.not_true, Bool.not_false, Bool.and_true, Bool.and_false, Bool.true_and, Bool.false_and, eq_self, true_and, and_true, Nat.reduceBEq, Nat.reduceAdd, reduceIte, Nat.reduceEqDiff]; decide, sBX0_realFits_0 F hr hlk _ _ _ ?_⟩
    simp only [BX0_realFits_0, i_push, i_iload, i_dload, i_dcmp, i_D, i_f2d, i_d2f, i_if, i_sw, i_call, i_zret, i_swc, lk, wd, rm1, rm2, pick, popn, catS, pushO, aLV, cond_true, cond_false, Bool.not_true, Bool.not_false, Bool.and_true, Bool.and_false, Bool.true_and, Bool.false_and, eq_self, true_and, and_true, Nat.reduceBEq, Nat.reduceAdd, reduceIte, Nat.reduceEqDiff, SX0_isJust, SX0_wholeFits]
    try simp only [tCnt, aK, aN, aR, eq_self, true_and, and_true, Nat.reduceLeDiff, Nat.reduceEqDiff]
    simp only [b2i_0]
    (repeat' (first | assumption | exact b2i_1 _ | apply And.intro | intro _)) <;> (first | assumption | decide | (simpa [rF, b2i, *] using hS) | (simp_all [b2i, rF, b2i]; done))
  · exact hS.elim
def SX0_isForSort : SP := fun as M post => match as with
  | [.inr (t, p0), .inl (.int z)] => t = 4 ∧ p0 < 30 ∧ post (some (.inl (.int (b2i (forS (M.1 4 p0 0) z = true))))) M
  | _ => False
abbrev rmX0_isForSort : Room := ({ frames := 0, cells := 0, slots := 0, locals := 0 } : Room)
theorem tsw_X0_isForSort_4 (x : Int32) : (¬ x.toInt < 7 ∧ ¬ 9 < x.toInt ∧ ∃ off, (#[28, 30, 41] : Array Int)[(x.toInt - 7).toNat]? = some off ∧ ((4 : Nat) : Int) + off = (((if x = 7 then 32 else if x = 8 then 34 else if x = 9 then 45 else 56) : Nat) : Int)) ∨ ((x.toInt < 7 ∨ 9 < x.toInt) ∧ (if x = 7 then 32 else if x = 8 then 34 else if x = 9 then 45 else 56) = 56) := by
  by_cases e0 : x = 7
  · subst e0; exact Or.inl ⟨by decide, by decide, _, rfl, by decide⟩
  by_cases e1 : x = 8
  · subst e1; exact Or.inl ⟨by decide, by decide, _, rfl, by decide⟩
  by_cases e2 : x = 9
  · subst e2; exact Or.inl ⟨by decide, by decide, _, rfl, by decide⟩
  right
  have n0 := lv_neT e0 (a := 7) (by decide)
  have n1 := lv_neT e1 (a := 8) (by decide)
  have n2 := lv_neT e2 (a := 9) (by decide)
  exact ⟨by omega, by simp only [if_neg e0, if_neg e1, if_neg e2]⟩
def BX0_isForSort_0 (Qr : Option AV → MM → Prop) (lv : LV) (st : List AV) (M : MM) : Prop := (i_aload 0 (i_getI 4 0 (i_sw [(7, (i_push (.inl (.int 1)) (i_zret Qr))), (8, (i_iload 1 (i_push (.inl (.int 1)) (i_cmp (fun a b => a = b) (i_push (.inl (.int 1)) (i_zret Qr)) (i_push (.inl (.int 0)) (i_zret Qr)))))), (9, (i_iload 1 (i_push (.inl (.int 2)) (i_cmp (fun a b => a = b) (i_push (.inl (.int 1)) (i_zret Qr)) (i_push (.inl (.int 0)) (i_zret Qr))))))] (i_push (.inl (.int 0)) (i_zret Qr))))) lv st M
set_option maxRecDepth 100000 in
set_option maxHeartbeats 4000000 in
theorem sBX0_isForSort_0 {p : Program} {l : Launch} {e : Env} {s : State} {m : MethodId} {args : Array Value} {below : List Frame} {meth : Method} {c : Code} {G : Nat → Nat → Nat} {cy dC : Nat → ClassId} {dI : Nat → Nat → Nat} {Qr : Option AV → MM → Prop} (F : FX p m c cX0_isForSort 2 RX0 s args (AW G) G cy dC dI) (hr : meth.sig.returnType = (some .boolean)) (hlk : meth.locks = false) : SO p l e rmX0_isForSort s m args below meth c 0 0 (MQ below (QI G cy dC dI Qr) args s 0 0 (AW G)) 2 (AW G) G cy dC dI 0 (BX0_isForSort_0 Qr) := by
  exact (s_aload_n F dX0_isForSort_0 rfl (s_getI F (ci := 0) dX0_isForSort_1 rfl in_X0 (by decide) q31 (fun _ _ _ _ => ⟨_, rfl, rfl⟩) (s_tsw F [(7, (i_push (.inl (.int 1)) (i_zret Qr))), (8, (i_iload 1 (i_push (.inl (.int 1)) (i_cmp (fun a b => a = b) (i_push (.inl (.int 1)) (i_zret Qr)) (i_push (.inl (.int 0)) (i_zret Qr)))))), (9, (i_iload 1 (i_push (.inl (.int 2)) (i_cmp (fun a b => a = b) (i_push (.inl (.int 1)) (i_zret Qr)) (i_push (.inl (.int 0)) (i_zret Qr))))))] (fun x => if x = 7 then 32 else if x = 8 then 34 else if x = 9 then 45 else 56) 56 dX0_isForSort_4 (by decide) (tsw_X0_isForSort_4) (List.forall_mem_cons.mpr ⟨(show SO _ _ _ _ _ _ _ _ _ _ _ _ _ _ _ _ _ _ _ 32 _ from (s_iconst F dX0_isForSort_32 (by decide) (s_zret F dX0_isForSort_33 hr hlk))), (List.forall_mem_cons.mpr ⟨(show SO _ _ _ _ _ _ _ _ _ _ _ _ _ _ _ _ _ _ _ 34 _ from (s_iload_n F dX0_isForSort_34 rfl (s_iconst F dX0_isForSort_35 (by decide) (s_icmp_ne F dX0_isForSort_36 (by decide) (s_iconst F dX0_isForSort_43 (by decide) (s_zret F dX0_isForSort_44 hr hlk)) (s_iconst F dX0_isForSort_39 (by decide) (s_goto F dX0_isForSort_40 (by decide) (s_zret F dX0_isForSort_44 hr hlk))))))), (List.forall_mem_cons.mpr ⟨(show SO _ _ _ _ _ _ _ _ _ _ _ _ _ _ _ _ _ _ _ 45 _ from (s_iload_n F dX0_isForSort_45 rfl (s_iconst F dX0_isForSort_46 (by decide) (s_icmp_ne F dX0_isForSort_47 (by decide) (s_iconst F dX0_isForSort_54 (by decide) (s_zret F dX0_isForSort_55 hr hlk)) (s_iconst F dX0_isForSort_50 (by decide) (s_goto F dX0_isForSort_51 (by decide) (s_zret F dX0_isForSort_55 hr hlk))))))), fun _ hq => nomatch hq⟩)⟩)⟩) (fun x hx => by have hx2 := hx; simp only [List.forall_mem_cons] at hx2; obtain ⟨e0, e1, e2, -⟩ := hx2; have hgo : (if x = 7 then 32 else if x = 8 then 34 else if x = 9 then 45 else 56) = 56 := (by simp only [if_neg e0, if_neg e1, if_neg e2]); show SO _ _ _ _ _ _ _ _ _ _ _ _ _ _ _ _ _ _ _ (if x = 7 then 32 else if x = 8 then 34 else if x = 9 then 45 else 56) _; rw [hgo]; exact (s_iconst F dX0_isForSort_56 (by decide) (s_zret F dX0_isForSort_57 hr hlk))))))
set_option maxRecDepth 100000 in
set_option maxHeartbeats 4000000 in
theorem ctX0_isForSort (l : Launch) : CI l yX0_isForSort (ws_ yX0_isForSort cX0_isForSort 2 (some .boolean)) rmX0_isForSort SX0_isForSort := by
  refine mk_CI (by decide) ?_
  intro p e s m args below meth c G cy dC dI F hr hlk as M post hS
  unfold SX0_isForSort at hS
  split at hS
  · rename_i t p0 z
    obtain ⟨rfl, hp, hS⟩ := hS
    refine ⟨by simp only [lk, wd, rm1, rm2, pick, popn, catS, pushO, aLV, cond_true, cond_false, Bool.not_true, Bool.not_false, Bool.and_true, Bool.and_false, Bool.true_and, Bool.false_and, eq_self, true_and, and_true, Nat.reduceBEq, Nat.reduceAdd, reduceIte, Nat.reduceEqDiff]; decide, sBX0_isForSort_0 F hr hlk _ _ _ ?_⟩
    simp only [BX0_isForSort_0, i_push, i_iload, i_aload, i_cmp, i_sw, i_getI, i_zret, i_swc, lk, wd, rm1, rm2, pick, popn, catS, pushO, aLV, cond_true, cond_false, Bool.not_true, Bool.not_false, Bool.and_true, Bool.and_false, Bool.true_and, Bool.false_and, eq_self, true_and, and_true, Nat.reduceBEq, Nat.reduceAdd, reduceIte, Nat.reduceEqDiff]
    try simp only [tCnt, aK, aN, aR, eq_self, true_and, and_true, Nat.reduceLeDiff, Nat.reduceEqDiff]
    (repeat' (first | assumption | exact b2i_1 _ | apply And.intro | intro _)) <;> (first | assumption | decide | (simpa [forS, b2i, *] using hS) | (simp_all [b2i, forS, b2i]; done))
  · exact hS.elim
