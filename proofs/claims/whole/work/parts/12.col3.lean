def SX0_total : SP := fun as M post => match as with
  | [.inr (t, p0)] => t = 4 ∧ p0 < 30 ∧ cOK M p0 ∧ (∀ i, i < 40 → GR (M.2.2 7 p0 i)) ∧ post (some (.inl (.int (bx_sum (fun j => (xT M p0 j).toInt32) (cnt M p0))))) M
  | _ => False
abbrev rmX0_total : Room := ({ frames := 3, cells := 0, slots := 0, locals := 180 } : Room)
def BX0_total_4 (Qr : Option AV → MM → Prop) (K4 : PT) (lv : LV) (st : List AV) (M : MM) : Prop := (i_iload 2 (i_aload 0 (i_getI 4 1 (i_cmp (fun a b => a < b) (i_iload 1 (i_aload 0 (i_iload 2 (i_callV 1 4 SX0_tells (i_L (fun a => .inl (.int a.toInt32)) (i_II (fun a b => a + b) (i_istore 1 (i_iinc 2 1 (i_cut [0, 1, 2] K4))))))))) (i_iload 1 (i_iret Qr)))))) lv st M
set_option maxRecDepth 100000 in
set_option maxHeartbeats 4000000 in
theorem sBX0_total_4 {p : Program} {l : Launch} {e : Env} {s : State} {m : MethodId} {args : Array Value} {below : List Frame} {meth : Method} {c : Code} {G : Nat → Nat → Nat} {cy dC : Nat → ClassId} {dI : Nat → Nat → Nat} {Qr : Option AV → MM → Prop} {K4 : PT} (F : FX p m c cX0_total 3 RX0 s args (AW G) G cy dC dI) (hr : meth.sig.returnType = (some .int)) (hlk : meth.locks = false) (h4 : SO p l e rmX0_total s m args below meth c 0 0 (MQ below (QI G cy dC dI Qr) args s 0 0 (AW G)) 3 (AW G) G cy dC dI 4 K4) : SO p l e rmX0_total s m args below meth c 0 0 (MQ below (QI G cy dC dI Qr) args s 0 0 (AW G)) 3 (AW G) G cy dC dI 4 (BX0_total_4 Qr K4) := by
  exact (s_iload_n F dX0_total_4 rfl (s_aload_n F dX0_total_5 rfl (s_getI F (ci := 0) dX0_total_6 rfl in_X0 (by decide) q33 (fun _ _ _ _ => ⟨_, rfl, rfl⟩) (s_icmp_ge F dX0_total_9 (by decide) (s_iload_n F dX0_total_27 rfl (s_iret F dX0_total_28 hr hlk)) (s_iload_n F dX0_total_12 rfl (s_aload_n F dX0_total_13 rfl (s_iload_n F dX0_total_14 rfl (s_callVl F dX0_total_15 (ctX0_tells l) (lw_V q172 q173 q174 q2 q175) ⟨rfl, rfl⟩ (by decide +kernel) (by decide) ⟨Nat.zero_le _, Nat.zero_le _⟩ (ci := 0) rfl (fun _ _ _ _ => ⟨_, rfl⟩) (s_l2i F dX0_total_18 (s_iadd F dX0_total_19 (s_istore_n F dX0_total_20 rfl (by decide) (s_iinc F dX0_total_21 (by decide) (by decide) (s_goto F dX0_total_24 (by decide) (s_cut [0, 1, 2] h4))))))))))))))
def BX0_total_0 (Qr : Option AV → MM → Prop) (K4 : PT) (lv : LV) (st : List AV) (M : MM) : Prop := (i_push (.inl (.int 0)) (i_istore 1 (i_push (.inl (.int 0)) (i_istore 2 (i_cut [0, 1, 2] K4))))) lv st M
set_option maxRecDepth 100000 in
set_option maxHeartbeats 4000000 in
theorem sBX0_total_0 {p : Program} {l : Launch} {e : Env} {s : State} {m : MethodId} {args : Array Value} {below : List Frame} {meth : Method} {c : Code} {G : Nat → Nat → Nat} {cy dC : Nat → ClassId} {dI : Nat → Nat → Nat} {Qr : Option AV → MM → Prop} {K4 : PT} (F : FX p m c cX0_total 3 RX0 s args (AW G) G cy dC dI) (hr : meth.sig.returnType = (some .int)) (hlk : meth.locks = false) (h4 : SO p l e rmX0_total s m args below meth c 0 0 (MQ below (QI G cy dC dI Qr) args s 0 0 (AW G)) 3 (AW G) G cy dC dI 4 K4) : SO p l e rmX0_total s m args below meth c 0 0 (MQ below (QI G cy dC dI Qr) args s 0 0 (AW G)) 3 (AW G) G cy dC dI 0 (BX0_total_0 Qr K4) := by
  exact (s_iconst F dX0_total_0 (by decide) (s_istore_n F dX0_total_1 rfl (by decide) (s_iconst F dX0_total_2 (by decide) (s_istore_n F dX0_total_3 rfl (by decide) (s_cut [0, 1, 2] h4)))))
set_option maxRecDepth 100000 in
set_option maxHeartbeats 4000000 in
theorem ctX0_total (l : Launch) : CI l yX0_total (ws_ yX0_total cX0_total 3 (some .int)) rmX0_total SX0_total := by
  refine mk_CI (by decide) ?_
  intro p e s m args below meth c G cy dC dI F hr hlk as M post hS
  unfold SX0_total at hS
  split at hS
  · rename_i t p0
    obtain ⟨rfl, hp, hc, hg, hS⟩ := hS
    have hc40 := cnt_le hc
    have hL : ∀ n, SO p l e rmX0_total s m args below meth c 0 0 (MQ below (QI G cy dC dI post) args s 0 0 (AW G)) 3 (AW G) G cy dC dI 4 ((fun (n : Nat) (lv : LV) (st : List AV) (M' : MM) => ∃ i : Nat, i ≤ cnt M p0 ∧ n = cnt M p0 - i ∧ lv = [(0, .inr (4, p0)), (1, .inl (.int (bx_sum (fun j => (xT M p0 j).toInt32) i))), (2, .inl (.int (nI i)))] ∧ st = [] ∧ M' = M) n) := by
      refine SO_loop (fun K => BX0_total_4 post K) (fun K hK => sBX0_total_4 F hr hlk hK) (fun (n : Nat) (lv : LV) (st : List AV) (M' : MM) => ∃ i : Nat, i ≤ cnt M p0 ∧ n = cnt M p0 - i ∧ lv = [(0, .inr (4, p0)), (1, .inl (.int (bx_sum (fun j => (xT M p0 j).toInt32) i))), (2, .inl (.int (nI i)))] ∧ st = [] ∧ M' = M) ?_
      intro n lv st M' ⟨i, hi, hn, e1, e2, e3⟩
      subst e1; subst e2; subst e3
      simp only [BX0_total_0, BX0_total_4, i_push, i_iload, i_aload, i_istore, i_iinc, i_II, i_L, i_cmp, i_getI, i_callV, i_iret, i_cut, lk, wd, rm1, rm2, pick, popn, catS, pushO, aLV, cond_true, cond_false, Bool.not_true, Bool.not_false, Bool.and_true, Bool.and_false, Bool.true_and, Bool.false_and, eq_self, true_and, and_true, Nat.reduceBEq, Nat.reduceAdd, reduceIte, Nat.reduceEqDiff, SX0_tells]
      try simp only [tCnt, aK, aN, aR, eq_self, true_and, and_true, Nat.reduceLeDiff, Nat.reduceEqDiff]
      refine ⟨hp, fun c => ?_, fun c => ?_⟩
      · rw [lt_cnt hc (by omega)] at c
        refine ⟨hp, hp, vin (n := 40) (by omega) (by omega), by rw [ncl (by omega)]; exact hg i (by omega), n - 1, by omega, i + 1, by omega, by omega, ?_⟩
        rw [ncl (by omega), nI_1]
        rfl
      · rw [lt_cnt hc (by omega)] at c
        rw [show i = cnt M' p0 by omega]
        exact hS
    refine ⟨by simp only [lk, wd, rm1, rm2, pick, popn, catS, pushO, aLV, cond_true, cond_false, Bool.not_true, Bool.not_false, Bool.and_true, Bool.and_false, Bool.true_and, Bool.false_and, eq_self, true_and, and_true, Nat.reduceBEq, Nat.reduceAdd, reduceIte, Nat.reduceEqDiff]; decide, sBX0_total_0 F hr hlk (SO_or hL) _ _ _ ?_⟩
    simp only [BX0_total_0, BX0_total_4, i_push, i_iload, i_aload, i_istore, i_iinc, i_II, i_L, i_cmp, i_getI, i_callV, i_iret, i_cut, lk, wd, rm1, rm2, pick, popn, catS, pushO, aLV, cond_true, cond_false, Bool.not_true, Bool.not_false, Bool.and_true, Bool.and_false, Bool.true_and, Bool.false_and, eq_self, true_and, and_true, Nat.reduceBEq, Nat.reduceAdd, reduceIte, Nat.reduceEqDiff, SX0_tells]
    try simp only [tCnt, aK, aN, aR, eq_self, true_and, and_true, Nat.reduceLeDiff, Nat.reduceEqDiff]
    exact ⟨cnt M p0, 0, by omega, by omega, rfl⟩
  · exact hS.elim
def SX0_firstNotIn : SP := fun as M post => match as with
  | [.inr (t, p0), .inl (.int k)] => t = 4 ∧ p0 < 30 ∧ cOK M p0 ∧ (∀ i, i < 40 → GR (M.2.2 7 p0 i)) ∧ post (some (.inl (.int (nI (fst0 (fun i => xF M p0 i k) (cnt M p0)))))) M
  | _ => False
abbrev rmX0_firstNotIn : Room := ({ frames := 3, cells := 0, slots := 0, locals := 180 } : Room)
def BX0_firstNotIn_46 (Qr : Option AV → MM → Prop) (K2 : PT) (lv : LV) (st : List AV) (M : MM) : Prop := (i_iinc 2 1 (i_cut [0, 1, 2] K2)) lv st M
set_option maxRecDepth 100000 in
set_option maxHeartbeats 4000000 in
theorem sBX0_firstNotIn_46 {p : Program} {l : Launch} {e : Env} {s : State} {m : MethodId} {args : Array Value} {below : List Frame} {meth : Method} {c : Code} {G : Nat → Nat → Nat} {cy dC : Nat → ClassId} {dI : Nat → Nat → Nat} {Qr : Option AV → MM → Prop} {K2 : PT} (F : FX p m c cX0_firstNotIn 3 RX0 s args (AW G) G cy dC dI) (hr : meth.sig.returnType = (some .int)) (hlk : meth.locks = false) (h2 : SO p l e rmX0_firstNotIn s m args below meth c 0 0 (MQ below (QI G cy dC dI Qr) args s 0 0 (AW G)) 3 (AW G) G cy dC dI 2 K2) : SO p l e rmX0_firstNotIn s m args below meth c 0 0 (MQ below (QI G cy dC dI Qr) args s 0 0 (AW G)) 3 (AW G) G cy dC dI 46 (BX0_firstNotIn_46 Qr K2) := by
  exact (s_iinc F dX0_firstNotIn_46 (by decide) (by decide) (s_goto F dX0_firstNotIn_49 (by decide) (s_cut [0, 1, 2] h2)))
def BX0_firstNotIn_2 (Qr : Option AV → MM → Prop) (K2 : PT) (lv : LV) (st : List AV) (M : MM) : Prop := (i_iload 2 (i_aload 0 (i_getI 4 1 (i_cmp (fun a b => a < b) (i_aload 0 (i_callV 0 4 SX0_isOfReals (i_if (fun a => a = 0) (i_aload 0 (i_getR 4 6 (fun i => i) (i_iload 2 (i_lald (i_iload 1 (i_call 2 SX0_wholeFits (i_if (fun a => a = 0) (i_iload 2 (i_iret Qr)) (i_cut [0, 1, 2] (BX0_firstNotIn_46 Qr K2))))))))) (i_aload 0 (i_getR 4 7 (fun i => i) (i_iload 2 (i_dald (i_iload 1 (i_call 2 SX0_realFits (i_if (fun a => a = 0) (i_iload 2 (i_iret Qr)) (i_cut [0, 1, 2] (BX0_firstNotIn_46 Qr K2)))))))))))) (i_iload 2 (i_iret Qr)))))) lv st M
set_option maxRecDepth 100000 in
set_option maxHeartbeats 4000000 in
theorem sBX0_firstNotIn_2 {p : Program} {l : Launch} {e : Env} {s : State} {m : MethodId} {args : Array Value} {below : List Frame} {meth : Method} {c : Code} {G : Nat → Nat → Nat} {cy dC : Nat → ClassId} {dI : Nat → Nat → Nat} {Qr : Option AV → MM → Prop} {K2 : PT} (F : FX p m c cX0_firstNotIn 3 RX0 s args (AW G) G cy dC dI) (hr : meth.sig.returnType = (some .int)) (hlk : meth.locks = false) (h2 : SO p l e rmX0_firstNotIn s m args below meth c 0 0 (MQ below (QI G cy dC dI Qr) args s 0 0 (AW G)) 3 (AW G) G cy dC dI 2 K2) : SO p l e rmX0_firstNotIn s m args below meth c 0 0 (MQ below (QI G cy dC dI Qr) args s 0 0 (AW G)) 3 (AW G) G cy dC dI 2 (BX0_firstNotIn_2 Qr K2) := by
  exact (s_iload_n F dX0_firstNotIn_2 rfl (s_aload_n F dX0_firstNotIn_3 rfl (s_getI F (ci := 0) dX0_firstNotIn_4 rfl in_X0 (by decide) q33 (fun _ _ _ _ => ⟨_, rfl, rfl⟩) (s_icmp_ge F dX0_firstNotIn_7 (by decide) (s_iload_n F dX0_firstNotIn_52 rfl (s_iret F dX0_firstNotIn_53 hr hlk)) (s_aload_n F dX0_firstNotIn_10 rfl (s_callVi F dX0_firstNotIn_11 (ctX0_isOfReals l) (lw_V q176 q177 q178 q2 q179) ⟨rfl, rfl⟩ (by decide +kernel) (by decide) ⟨Nat.zero_le _, Nat.zero_le _⟩ (ci := 0) rfl (fun _ _ _ _ => ⟨_, rfl⟩) (s_if_eq F dX0_firstNotIn_14 (by decide) (s_aload_n F dX0_firstNotIn_33 rfl (s_getR F (ci := 0) (f := 2) dX0_firstNotIn_34 rfl in_X0 (by decide) q35 (fun _ _ _ _ => ⟨_, rfl, rfl⟩) (s_iload_n F dX0_firstNotIn_37 rfl (s_lald F dX0_firstNotIn_38 (s_iload_n F dX0_firstNotIn_39 rfl (s_callSi F dX0_firstNotIn_40 (ctX0_wholeFits l) (lw_S q198 q199 q2 q200) ⟨rfl, rfl⟩ (by decide +kernel) (by decide) ⟨Nat.zero_le _, Nat.zero_le _⟩ (s_if_eq F dX0_firstNotIn_43 (by decide) (s_iload_n F dX0_firstNotIn_52 rfl (s_iret F dX0_firstNotIn_53 hr hlk)) (s_cut [0, 1, 2] (sBX0_firstNotIn_46 F hr hlk h2))))))))) (s_aload_n F dX0_firstNotIn_17 rfl (s_getR F (ci := 0) (f := 3) dX0_firstNotIn_18 rfl in_X0 (by decide) q36 (fun _ _ _ _ => ⟨_, rfl, rfl⟩) (s_iload_n F dX0_firstNotIn_21 rfl (s_dald F dX0_firstNotIn_22 (s_iload_n F dX0_firstNotIn_23 rfl (s_callSi F dX0_firstNotIn_24 (ctX0_realFits l) (lw_S q191 q192 q2 q193) ⟨rfl, rfl⟩ (by decide +kernel) (by decide) ⟨Nat.zero_le _, Nat.zero_le _⟩ (s_if_eq F dX0_firstNotIn_27 (by decide) (s_iload_n F dX0_firstNotIn_52 rfl (s_iret F dX0_firstNotIn_53 hr hlk)) (s_goto F dX0_firstNotIn_30 (by decide) (s_cut [0, 1, 2] (sBX0_firstNotIn_46 F hr hlk h2)))))))))))))))))
def BX0_firstNotIn_0 (Qr : Option AV → MM → Prop) (K2 : PT) (lv : LV) (st : List AV) (M : MM) : Prop := (i_push (.inl (.int 0)) (i_istore 2 (i_cut [0, 1, 2] K2))) lv st M
set_option maxRecDepth 100000 in
set_option maxHeartbeats 4000000 in
theorem sBX0_firstNotIn_0 {p : Program} {l : Launch} {e : Env} {s : State} {m : MethodId} {args : Array Value} {below : List Frame} {meth : Method} {c : Code} {G : Nat → Nat → Nat} {cy dC : Nat → ClassId} {dI : Nat → Nat → Nat} {Qr : Option AV → MM → Prop} {K2 : PT} (F : FX p m c cX0_firstNotIn 3 RX0 s args (AW G) G cy dC dI) (hr : meth.sig.returnType = (some .int)) (hlk : meth.locks = false) (h2 : SO p l e rmX0_firstNotIn s m args below meth c 0 0 (MQ below (QI G cy dC dI Qr) args s 0 0 (AW G)) 3 (AW G) G cy dC dI 2 K2) : SO p l e rmX0_firstNotIn s m args below meth c 0 0 (MQ below (QI G cy dC dI Qr) args s 0 0 (AW G)) 3 (AW G) G cy dC dI 0 (BX0_firstNotIn_0 Qr K2) := by
  exact (s_iconst F dX0_firstNotIn_0 (by decide) (s_istore_n F dX0_firstNotIn_1 rfl (by decide) (s_cut [0, 1, 2] h2)))
set_option maxRecDepth 100000 in
set_option maxHeartbeats 4000000 in
theorem ctX0_firstNotIn (l : Launch) : CI l yX0_firstNotIn (ws_ yX0_firstNotIn cX0_firstNotIn 3 (some .int)) rmX0_firstNotIn SX0_firstNotIn := by
  refine mk_CI (by decide) ?_
  intro p e s m args below meth c G cy dC dI F hr hlk as M post hS
  unfold SX0_firstNotIn at hS
  split at hS
  · rename_i t p0 k
    obtain ⟨rfl, hp, hc, hg, hS⟩ := hS
    have hc40 := cnt_le hc
    have hL : ∀ n, SO p l e rmX0_firstNotIn s m args below meth c 0 0 (MQ below (QI G cy dC dI post) args s 0 0 (AW G)) 3 (AW G) G cy dC dI 2 ((fun (n : Nat) (lv : LV) (st : List AV) (M' : MM) => ∃ i : Nat, i ≤ cnt M p0 ∧ n = cnt M p0 - i ∧ (∀ j, j < i → xF M p0 j k = true) ∧ lv = [(0, .inr (4, p0)), (1, .inl (.int k)), (2, .inl (.int (nI i)))] ∧ st = [] ∧ M' = M) n) := by
      refine SO_loop (fun K => BX0_firstNotIn_2 post K) (fun K hK => sBX0_firstNotIn_2 F hr hlk hK) (fun (n : Nat) (lv : LV) (st : List AV) (M' : MM) => ∃ i : Nat, i ≤ cnt M p0 ∧ n = cnt M p0 - i ∧ (∀ j, j < i → xF M p0 j k = true) ∧ lv = [(0, .inr (4, p0)), (1, .inl (.int k)), (2, .inl (.int (nI i)))] ∧ st = [] ∧ M' = M) ?_
      intro n lv st M' ⟨i, hi, hn, hf, e1, e2, e3⟩
      subst e1; subst e2; subst e3
      simp only [BX0_firstNotIn_0, BX0_firstNotIn_2, BX0_firstNotIn_46, i_push, i_iload, i_aload, i_istore, i_iinc, i_if, i_cmp, i_getI, i_getR, i_lald, i_dald, i_call, i_callV, i_iret, i_cut, lk, wd, rm1, rm2, pick, popn, catS, pushO, aLV, cond_true, cond_false, Bool.not_true, Bool.not_false, Bool.and_true, Bool.and_false, Bool.true_and, Bool.false_and, eq_self, true_and, and_true, Nat.reduceBEq, Nat.reduceAdd, reduceIte, Nat.reduceEqDiff, SX0_isOfReals, SX0_realFits, SX0_wholeFits]
      try simp only [tCnt, aK, aN, aR, eq_self, true_and, and_true, Nat.reduceLeDiff, Nat.reduceEqDiff]
      have hend : ∀ i, i ≤ cnt M' p0 → (∀ j, j < i → xF M' p0 j k = true) → (i = cnt M' p0 ∨ xF M' p0 i k = false) → post (some (.inl (.int (nI i)))) M' := fun i h1 h2 h3 => by
        rw [fst0_eq (fun i => xF M' p0 i k) h1 h2 h3] at hS
        exact hS
      simp only [b2i_0]
      refine ⟨hp, fun c => ?_, fun c => ?_⟩
      · rw [lt_cnt hc (by omega)] at c
        have hgi := hg i (by omega)
        rw [ncl (by omega)]
        have hv := vin (n := 40) (i := i) (by omega) (by omega)
        have hg1 := hgi.2.1
        have hg2 := hgi.2.2.1
        (repeat (first | refine And.intro hp ?_ | refine And.intro (by decide) ?_))
        refine ⟨fun c2 => ?_, fun c2 => ?_⟩
        · (repeat (first | refine And.intro hp ?_ | refine And.intro hv ?_ | refine And.intro hg1 ?_ | refine And.intro hg2 ?_ | refine And.intro (by decide) ?_))
          have c2' : isR (M'.1 4 p0 0) = false := by simpa using c2
          refine ⟨fun c3 => ?_, fun c3 => ?_⟩
          · exact hend i hi hf (Or.inr (by unfold xF; rw [c2']; simpa using c3))
          · exact ⟨n - 1, by omega, i + 1, by omega, by omega, fun j hj => (if e : j = i then by rw [e]; unfold xF; rw [c2']; simpa using c3 else hf j (by omega)), by rw [nI_1]⟩
        · (repeat (first | refine And.intro hp ?_ | refine And.intro hv ?_ | refine And.intro hg1 ?_ | refine And.intro hg2 ?_ | refine And.intro (by decide) ?_))
          have c2' : isR (M'.1 4 p0 0) = true := by simpa using c2
          refine ⟨fun c3 => ?_, fun c3 => ?_⟩
          · exact hend i hi hf (Or.inr (by unfold xF; rw [c2']; simpa using c3))
          · exact ⟨n - 1, by omega, i + 1, by omega, by omega, fun j hj => (if e : j = i then by rw [e]; unfold xF; rw [c2']; simpa using c3 else hf j (by omega)), by rw [nI_1]⟩
      · rw [lt_cnt hc (by omega)] at c
        exact hend i hi hf (Or.inl (by omega))
    refine ⟨by simp only [lk, wd, rm1, rm2, pick, popn, catS, pushO, aLV, cond_true, cond_false, Bool.not_true, Bool.not_false, Bool.and_true, Bool.and_false, Bool.true_and, Bool.false_and, eq_self, true_and, and_true, Nat.reduceBEq, Nat.reduceAdd, reduceIte, Nat.reduceEqDiff]; decide, sBX0_firstNotIn_0 F hr hlk (SO_or hL) _ _ _ ?_⟩
    simp only [BX0_firstNotIn_0, BX0_firstNotIn_2, BX0_firstNotIn_46, i_push, i_iload, i_aload, i_istore, i_iinc, i_if, i_cmp, i_getI, i_getR, i_lald, i_dald, i_call, i_callV, i_iret, i_cut, lk, wd, rm1, rm2, pick, popn, catS, pushO, aLV, cond_true, cond_false, Bool.not_true, Bool.not_false, Bool.and_true, Bool.and_false, Bool.true_and, Bool.false_and, eq_self, true_and, and_true, Nat.reduceBEq, Nat.reduceAdd, reduceIte, Nat.reduceEqDiff, SX0_isOfReals, SX0_realFits, SX0_wholeFits]
    try simp only [tCnt, aK, aN, aR, eq_self, true_and, and_true, Nat.reduceLeDiff, Nat.reduceEqDiff]
    exact ⟨cnt M p0, 0, by omega, by omega, fun j hj => absurd hj (Nat.not_lt_zero j), rfl⟩
  · exact hS.elim
def SX0_countHeldHere : SP := fun as M post => match as with
  | [.inr (t, p0)] => t = 4 ∧ p0 < 30 ∧ cOK M p0 ∧ post (some (.inl (.int (if M.1 4 p0 0 < 7 then 0 else bx_sum (xH M p0) (cnt M p0))))) M
  | _ => False
abbrev rmX0_countHeldHere : Room := ({ frames := 1, cells := 0, slots := 0, locals := 60 } : Room)
def BX0_countHeldHere_34 (Qr : Option AV → MM → Prop) (K11 : PT) (lv : LV) (st : List AV) (M : MM) : Prop := (i_II (fun a b => a + b) (i_istore 1 (i_iinc 2 1 (i_cut [0, 1, 2] K11)))) lv st M
set_option maxRecDepth 100000 in
set_option maxHeartbeats 4000000 in
theorem sBX0_countHeldHere_34 {p : Program} {l : Launch} {e : Env} {s : State} {m : MethodId} {args : Array Value} {below : List Frame} {meth : Method} {c : Code} {G : Nat → Nat → Nat} {cy dC : Nat → ClassId} {dI : Nat → Nat → Nat} {Qr : Option AV → MM → Prop} {K11 : PT} (F : FX p m c cX0_countHeldHere 3 RX0 s args (AW G) G cy dC dI) (hr : meth.sig.returnType = (some .int)) (hlk : meth.locks = false) (h11 : SO p l e rmX0_countHeldHere s m args below meth c 0 0 (MQ below (QI G cy dC dI Qr) args s 0 0 (AW G)) 3 (AW G) G cy dC dI 11 K11) : SO p l e rmX0_countHeldHere s m args below meth c 0 0 (MQ below (QI G cy dC dI Qr) args s 0 0 (AW G)) 3 (AW G) G cy dC dI 34 (BX0_countHeldHere_34 Qr K11) := by
  exact (s_iadd F dX0_countHeldHere_34 (s_istore_n F dX0_countHeldHere_35 rfl (by decide) (s_iinc F dX0_countHeldHere_36 (by decide) (by decide) (s_goto F dX0_countHeldHere_39 (by decide) (s_cut [0, 1, 2] h11)))))
def BX0_countHeldHere_11 (Qr : Option AV → MM → Prop) (K11 : PT) (lv : LV) (st : List AV) (M : MM) : Prop := (i_iload 2 (i_aload 0 (i_getI 4 1 (i_cmp (fun a b => a < b) (i_iload 1 (i_aload 0 (i_iload 2 (i_callV 1 4 SX0_heldPart (i_push (.inl (.int (-1))) (i_cmp (fun a b => a = b) (i_push (.inl (.int 0)) (i_cut [0, 2] (BX0_countHeldHere_34 Qr K11))) (i_push (.inl (.int 1)) (i_cut [0, 2] (BX0_countHeldHere_34 Qr K11))))))))) (i_iload 1 (i_iret Qr)))))) lv st M
set_option maxRecDepth 100000 in
set_option maxHeartbeats 4000000 in
theorem sBX0_countHeldHere_11 {p : Program} {l : Launch} {e : Env} {s : State} {m : MethodId} {args : Array Value} {below : List Frame} {meth : Method} {c : Code} {G : Nat → Nat → Nat} {cy dC : Nat → ClassId} {dI : Nat → Nat → Nat} {Qr : Option AV → MM → Prop} {K11 : PT} (F : FX p m c cX0_countHeldHere 3 RX0 s args (AW G) G cy dC dI) (hr : meth.sig.returnType = (some .int)) (hlk : meth.locks = false) (h11 : SO p l e rmX0_countHeldHere s m args below meth c 0 0 (MQ below (QI G cy dC dI Qr) args s 0 0 (AW G)) 3 (AW G) G cy dC dI 11 K11) : SO p l e rmX0_countHeldHere s m args below meth c 0 0 (MQ below (QI G cy dC dI Qr) args s 0 0 (AW G)) 3 (AW G) G cy dC dI 11 (BX0_countHeldHere_11 Qr K11) := by
  exact (s_iload_n F dX0_countHeldHere_11 rfl (s_aload_n F dX0_countHeldHere_12 rfl (s_getI F (ci := 0) dX0_countHeldHere_13 rfl in_X0 (by decide) q33 (fun _ _ _ _ => ⟨_, rfl, rfl⟩) (s_icmp_ge F dX0_countHeldHere_16 (by decide) (s_iload_n F dX0_countHeldHere_42 rfl (s_iret F dX0_countHeldHere_43 hr hlk)) (s_iload_n F dX0_countHeldHere_19 rfl (s_aload_n F dX0_countHeldHere_20 rfl (s_iload_n F dX0_countHeldHere_21 rfl (s_callVi F dX0_countHeldHere_22 (ctX0_heldPart l) (lw_V q329 q242 q243 q2 q244) ⟨rfl, rfl⟩ (by decide +kernel) (by decide) ⟨Nat.zero_le _, Nat.zero_le _⟩ (ci := 0) rfl (fun _ _ _ _ => ⟨_, rfl⟩) (s_iconst F dX0_countHeldHere_25 (by decide) (s_icmp_ne F dX0_countHeldHere_26 (by decide) (s_iconst F dX0_countHeldHere_33 (by decide) (s_cut [0, 2] (sBX0_countHeldHere_34 F hr hlk h11))) (s_iconst F dX0_countHeldHere_29 (by decide) (s_goto F dX0_countHeldHere_30 (by decide) (s_cut [0, 2] (sBX0_countHeldHere_34 F hr hlk h11))))))))))))))
def BX0_countHeldHere_0 (Qr : Option AV → MM → Prop) (K11 : PT) (lv : LV) (st : List AV) (M : MM) : Prop := (i_push (.inl (.int 0)) (i_istore 1 (i_aload 0 (i_callV 0 4 SX0_isShelf (i_if (fun a => a = 0) (i_iload 1 (i_iret Qr)) (i_push (.inl (.int 0)) (i_istore 2 (i_cut [0, 1, 2] K11)))))))) lv st M
set_option maxRecDepth 100000 in
set_option maxHeartbeats 4000000 in
theorem sBX0_countHeldHere_0 {p : Program} {l : Launch} {e : Env} {s : State} {m : MethodId} {args : Array Value} {below : List Frame} {meth : Method} {c : Code} {G : Nat → Nat → Nat} {cy dC : Nat → ClassId} {dI : Nat → Nat → Nat} {Qr : Option AV → MM → Prop} {K11 : PT} (F : FX p m c cX0_countHeldHere 3 RX0 s args (AW G) G cy dC dI) (hr : meth.sig.returnType = (some .int)) (hlk : meth.locks = false) (h11 : SO p l e rmX0_countHeldHere s m args below meth c 0 0 (MQ below (QI G cy dC dI Qr) args s 0 0 (AW G)) 3 (AW G) G cy dC dI 11 K11) : SO p l e rmX0_countHeldHere s m args below meth c 0 0 (MQ below (QI G cy dC dI Qr) args s 0 0 (AW G)) 3 (AW G) G cy dC dI 0 (BX0_countHeldHere_0 Qr K11) := by
  exact (s_iconst F dX0_countHeldHere_0 (by decide) (s_istore_n F dX0_countHeldHere_1 rfl (by decide) (s_aload_n F dX0_countHeldHere_2 rfl (s_callVi F dX0_countHeldHere_3 (ctX0_isShelf l) (lw_V q96 q97 q98 q2 q99) ⟨rfl, rfl⟩ (by decide +kernel) (by decide) ⟨Nat.zero_le _, Nat.zero_le _⟩ (ci := 0) rfl (fun _ _ _ _ => ⟨_, rfl⟩) (s_if_eq F dX0_countHeldHere_6 (by decide) (s_iload_n F dX0_countHeldHere_42 rfl (s_iret F dX0_countHeldHere_43 hr hlk)) (s_iconst F dX0_countHeldHere_9 (by decide) (s_istore_n F dX0_countHeldHere_10 rfl (by decide) (s_cut [0, 1, 2] h11))))))))
set_option maxRecDepth 100000 in
set_option maxHeartbeats 4000000 in
theorem ctX0_countHeldHere (l : Launch) : CI l yX0_countHeldHere (ws_ yX0_countHeldHere cX0_countHeldHere 3 (some .int)) rmX0_countHeldHere SX0_countHeldHere := by
  refine mk_CI (by decide) ?_
  intro p e s m args below meth c G cy dC dI F hr hlk as M post hS
  unfold SX0_countHeldHere at hS
  split at hS
  · rename_i t p0
    obtain ⟨rfl, hp, hc, hS⟩ := hS
    have hc40 := cnt_le hc
    have hL : ∀ n, SO p l e rmX0_countHeldHere s m args below meth c 0 0 (MQ below (QI G cy dC dI post) args s 0 0 (AW G)) 3 (AW G) G cy dC dI 11 ((fun (n : Nat) (lv : LV) (st : List AV) (M' : MM) => ∃ i : Nat, i ≤ cnt M p0 ∧ n = cnt M p0 - i ∧ ¬ M.1 4 p0 0 < 7 ∧ lv = [(0, .inr (4, p0)), (1, .inl (.int (bx_sum (xH M p0) i))), (2, .inl (.int (nI i)))] ∧ st = [] ∧ M' = M) n) := by
      refine SO_loop (fun K => BX0_countHeldHere_11 post K) (fun K hK => sBX0_countHeldHere_11 F hr hlk hK) (fun (n : Nat) (lv : LV) (st : List AV) (M' : MM) => ∃ i : Nat, i ≤ cnt M p0 ∧ n = cnt M p0 - i ∧ ¬ M.1 4 p0 0 < 7 ∧ lv = [(0, .inr (4, p0)), (1, .inl (.int (bx_sum (xH M p0) i))), (2, .inl (.int (nI i)))] ∧ st = [] ∧ M' = M) ?_
      intro n lv st M' ⟨i, hi, hn, hk, e1, e2, e3⟩
      subst e1; subst e2; subst e3
      simp only [BX0_countHeldHere_0, BX0_countHeldHere_11, BX0_countHeldHere_34, i_push, i_iload, i_aload, i_istore, i_iinc, i_II, i_if, i_cmp, i_getI, i_callV, i_iret, i_cut, lk, wd, rm1, rm2, pick, popn, catS, pushO, aLV, cond_true, cond_false, Bool.not_true, Bool.not_false, Bool.and_true, Bool.and_false, Bool.true_and, Bool.false_and, eq_self, true_and, and_true, Nat.reduceBEq, Nat.reduceAdd, reduceIte, Nat.reduceEqDiff, SX0_heldPart, SX0_isShelf]
      try simp only [tCnt, aK, aN, aR, eq_self, true_and, and_true, Nat.reduceLeDiff, Nat.reduceEqDiff]
      refine ⟨hp, fun c => ?_, fun c => ?_⟩
      · rw [lt_cnt hc (by omega)] at c
        rw [ncl (by omega)]
        refine ⟨hp, hp, vin (n := 40) (by omega) (by omega), fun c2 => ⟨n - 1, by omega, i + 1, by omega, by omega, hk, ?_⟩, fun c2 => ⟨n - 1, by omega, i + 1, by omega, by omega, hk, ?_⟩⟩
        · rw [nI_1]; simp [bx_sum, xH, c2]
        · rw [nI_1]; simp [bx_sum, xH, c2]
      · rw [lt_cnt hc (by omega)] at c
        rw [if_neg hk, show cnt M' p0 = i by omega] at hS
        exact hS
    refine ⟨by simp only [lk, wd, rm1, rm2, pick, popn, catS, pushO, aLV, cond_true, cond_false, Bool.not_true, Bool.not_false, Bool.and_true, Bool.and_false, Bool.true_and, Bool.false_and, eq_self, true_and, and_true, Nat.reduceBEq, Nat.reduceAdd, reduceIte, Nat.reduceEqDiff]; decide, sBX0_countHeldHere_0 F hr hlk (SO_or hL) _ _ _ ?_⟩
    simp only [BX0_countHeldHere_0, BX0_countHeldHere_11, BX0_countHeldHere_34, i_push, i_iload, i_aload, i_istore, i_iinc, i_II, i_if, i_cmp, i_getI, i_callV, i_iret, i_cut, lk, wd, rm1, rm2, pick, popn, catS, pushO, aLV, cond_true, cond_false, Bool.not_true, Bool.not_false, Bool.and_true, Bool.and_false, Bool.true_and, Bool.false_and, eq_self, true_and, and_true, Nat.reduceBEq, Nat.reduceAdd, reduceIte, Nat.reduceEqDiff, SX0_heldPart, SX0_isShelf]
    try simp only [tCnt, aK, aN, aR, eq_self, true_and, and_true, Nat.reduceLeDiff, Nat.reduceEqDiff]
    simp only [b2i_0, Decidable.not_not]
    refine ⟨hp, hp, fun c => ?_, fun c => ?_⟩
    · rw [if_pos c] at hS
      exact hS
    · exact ⟨cnt M p0, 0, by omega, by omega, c, rfl⟩
  · exact hS.elim
def SX0_isSameAs : SP := fun as M post => match as with
  | [.inr (t, p0), .inr (t2, s0)] => t = 4 ∧ p0 < 30 ∧ t2 = 4 ∧ s0 < 30 ∧ cOK M p0 ∧ post (some (.inl (.int (b2i (M.1 4 p0 0 = M.1 4 s0 0 ∧ M.1 4 p0 1 = M.1 4 s0 1 ∧ fst0 (xE M p0 s0) (cnt M p0) = cnt M p0))))) M
  | _ => False
abbrev rmX0_isSameAs : Room := ({ frames := 2, cells := 0, slots := 0, locals := 120 } : Room)
def BX0_isSameAs_78 (Qr : Option AV → MM → Prop) (K26 : PT) (lv : LV) (st : List AV) (M : MM) : Prop := (i_iinc 2 1 (i_cut [0, 1, 2] K26)) lv st M
set_option maxRecDepth 100000 in
set_option maxHeartbeats 4000000 in
theorem sBX0_isSameAs_78 {p : Program} {l : Launch} {e : Env} {s : State} {m : MethodId} {args : Array Value} {below : List Frame} {meth : Method} {c : Code} {G : Nat → Nat → Nat} {cy dC : Nat → ClassId} {dI : Nat → Nat → Nat} {Qr : Option AV → MM → Prop} {K26 : PT} (F : FX p m c cX0_isSameAs 3 RX0 s args (AW G) G cy dC dI) (hr : meth.sig.returnType = (some .boolean)) (hlk : meth.locks = false) (h26 : SO p l e rmX0_isSameAs s m args below meth c 0 0 (MQ below (QI G cy dC dI Qr) args s 0 0 (AW G)) 3 (AW G) G cy dC dI 26 K26) : SO p l e rmX0_isSameAs s m args below meth c 0 0 (MQ below (QI G cy dC dI Qr) args s 0 0 (AW G)) 3 (AW G) G cy dC dI 78 (BX0_isSameAs_78 Qr K26) := by
  exact (s_iinc F dX0_isSameAs_78 (by decide) (by decide) (s_goto F dX0_isSameAs_81 (by decide) (s_cut [0, 1, 2] h26)))
def BX0_isSameAs_26 (Qr : Option AV → MM → Prop) (K26 : PT) (lv : LV) (st : List AV) (M : MM) : Prop := (i_iload 2 (i_aload 0 (i_getI 4 1 (i_cmp (fun a b => a < b) (i_aload 0 (i_callV 0 4 SX0_isOfReals (i_if (fun a => a = 0) (i_aload 0 (i_getR 4 6 (fun i => i) (i_iload 2 (i_lald (i_aload 1 (i_getR 4 6 (fun i => i) (i_iload 2 (i_lald (i_lcmp (i_if (fun a => a = 0) (i_cut [0, 1, 2] (BX0_isSameAs_78 Qr K26)) (i_push (.inl (.int 0)) (i_zret Qr)))))))))))) (i_aload 0 (i_getR 4 7 (fun i => i) (i_iload 2 (i_dald (i_aload 1 (i_getR 4 7 (fun i => i) (i_iload 2 (i_dald (i_dcmp .l (i_if (fun a => a = 0) (i_cut [0, 1, 2] (BX0_isSameAs_78 Qr K26)) (i_push (.inl (.int 0)) (i_zret Qr))))))))))))))) (i_push (.inl (.int 1)) (i_zret Qr)))))) lv st M
set_option maxRecDepth 100000 in
set_option maxHeartbeats 4000000 in
theorem sBX0_isSameAs_26 {p : Program} {l : Launch} {e : Env} {s : State} {m : MethodId} {args : Array Value} {below : List Frame} {meth : Method} {c : Code} {G : Nat → Nat → Nat} {cy dC : Nat → ClassId} {dI : Nat → Nat → Nat} {Qr : Option AV → MM → Prop} {K26 : PT} (F : FX p m c cX0_isSameAs 3 RX0 s args (AW G) G cy dC dI) (hr : meth.sig.returnType = (some .boolean)) (hlk : meth.locks = false) (h26 : SO p l e rmX0_isSameAs s m args below meth c 0 0 (MQ below (QI G cy dC dI Qr) args s 0 0 (AW G)) 3 (AW G) G cy dC dI 26 K26) : SO p l e rmX0_isSameAs s m args below meth c 0 0 (MQ below (QI G cy dC dI Qr) args s 0 0 (AW G)) 3 (AW G) G cy dC dI 26 (BX0_isSameAs_26 Qr K26) := by
  exact (s_iload_n F dX0_isSameAs_26 rfl (s_aload_n F dX0_isSameAs_27 rfl (s_getI F (ci := 0) dX0_isSameAs_28 rfl in_X0 (by decide) q33 (fun _ _ _ _ => ⟨_, rfl, rfl⟩) (s_icmp_ge F dX0_isSameAs_31 (by decide) (s_iconst F dX0_isSameAs_84 (by decide) (s_zret F dX0_isSameAs_85 hr hlk)) (s_aload_n F dX0_isSameAs_34 rfl (s_callVi F dX0_isSameAs_35 (ctX0_isOfReals l) (lw_V q176 q177 q178 q2 q179) ⟨rfl, rfl⟩ (by decide +kernel) (by decide) ⟨Nat.zero_le _, Nat.zero_le _⟩ (ci := 0) rfl (fun _ _ _ _ => ⟨_, rfl⟩) (s_if_eq F dX0_isSameAs_38 (by decide) (s_aload_n F dX0_isSameAs_60 rfl (s_getR F (ci := 0) (f := 2) dX0_isSameAs_61 rfl in_X0 (by decide) q35 (fun _ _ _ _ => ⟨_, rfl, rfl⟩) (s_iload_n F dX0_isSameAs_64 rfl (s_lald F dX0_isSameAs_65 (s_aload_n F dX0_isSameAs_66 rfl (s_getR F (ci := 0) (f := 2) dX0_isSameAs_67 rfl in_X0 (by decide) q35 (fun _ _ _ _ => ⟨_, rfl, rfl⟩) (s_iload_n F dX0_isSameAs_70 rfl (s_lald F dX0_isSameAs_71 (s_lcmp F dX0_isSameAs_72 (s_if_eq F dX0_isSameAs_73 (by decide) (s_cut [0, 1, 2] (sBX0_isSameAs_78 F hr hlk h26)) (s_iconst F dX0_isSameAs_76 (by decide) (s_zret F dX0_isSameAs_77 hr hlk)))))))))))) (s_aload_n F dX0_isSameAs_41 rfl (s_getR F (ci := 0) (f := 3) dX0_isSameAs_42 rfl in_X0 (by decide) q36 (fun _ _ _ _ => ⟨_, rfl, rfl⟩) (s_iload_n F dX0_isSameAs_45 rfl (s_dald F dX0_isSameAs_46 (s_aload_n F dX0_isSameAs_47 rfl (s_getR F (ci := 0) (f := 3) dX0_isSameAs_48 rfl in_X0 (by decide) q36 (fun _ _ _ _ => ⟨_, rfl, rfl⟩) (s_iload_n F dX0_isSameAs_51 rfl (s_dald F dX0_isSameAs_52 (s_dcmp F dX0_isSameAs_53 (s_if_eq F dX0_isSameAs_54 (by decide) (s_cut [0, 1, 2] (sBX0_isSameAs_78 F hr hlk h26)) (s_goto F dX0_isSameAs_57 (by decide) (s_iconst F dX0_isSameAs_76 (by decide) (s_zret F dX0_isSameAs_77 hr hlk))))))))))))))))))))
def BX0_isSameAs_0 (Qr : Option AV → MM → Prop) (K26 : PT) (lv : LV) (st : List AV) (M : MM) : Prop := (i_aload 0 (i_getI 4 0 (i_aload 1 (i_getI 4 0 (i_cmp (fun a b => a = b) (i_aload 0 (i_getI 4 1 (i_aload 1 (i_getI 4 1 (i_cmp (fun a b => a = b) (i_push (.inl (.int 0)) (i_istore 2 (i_cut [0, 1, 2] K26))) (i_push (.inl (.int 0)) (i_zret Qr))))))) (i_push (.inl (.int 0)) (i_zret Qr))))))) lv st M
set_option maxRecDepth 100000 in
set_option maxHeartbeats 4000000 in
theorem sBX0_isSameAs_0 {p : Program} {l : Launch} {e : Env} {s : State} {m : MethodId} {args : Array Value} {below : List Frame} {meth : Method} {c : Code} {G : Nat → Nat → Nat} {cy dC : Nat → ClassId} {dI : Nat → Nat → Nat} {Qr : Option AV → MM → Prop} {K26 : PT} (F : FX p m c cX0_isSameAs 3 RX0 s args (AW G) G cy dC dI) (hr : meth.sig.returnType = (some .boolean)) (hlk : meth.locks = false) (h26 : SO p l e rmX0_isSameAs s m args below meth c 0 0 (MQ below (QI G cy dC dI Qr) args s 0 0 (AW G)) 3 (AW G) G cy dC dI 26 K26) : SO p l e rmX0_isSameAs s m args below meth c 0 0 (MQ below (QI G cy dC dI Qr) args s 0 0 (AW G)) 3 (AW G) G cy dC dI 0 (BX0_isSameAs_0 Qr K26) := by
  exact (s_aload_n F dX0_isSameAs_0 rfl (s_getI F (ci := 0) dX0_isSameAs_1 rfl in_X0 (by decide) q31 (fun _ _ _ _ => ⟨_, rfl, rfl⟩) (s_aload_n F dX0_isSameAs_4 rfl (s_getI F (ci := 0) dX0_isSameAs_5 rfl in_X0 (by decide) q31 (fun _ _ _ _ => ⟨_, rfl, rfl⟩) (s_icmp_ne F dX0_isSameAs_8 (by decide) (s_iconst F dX0_isSameAs_22 (by decide) (s_zret F dX0_isSameAs_23 hr hlk)) (s_aload_n F dX0_isSameAs_11 rfl (s_getI F (ci := 0) dX0_isSameAs_12 rfl in_X0 (by decide) q33 (fun _ _ _ _ => ⟨_, rfl, rfl⟩) (s_aload_n F dX0_isSameAs_15 rfl (s_getI F (ci := 0) dX0_isSameAs_16 rfl in_X0 (by decide) q33 (fun _ _ _ _ => ⟨_, rfl, rfl⟩) (s_icmp_eq F dX0_isSameAs_19 (by decide) (s_iconst F dX0_isSameAs_24 (by decide) (s_istore_n F dX0_isSameAs_25 rfl (by decide) (s_cut [0, 1, 2] h26))) (s_iconst F dX0_isSameAs_22 (by decide) (s_zret F dX0_isSameAs_23 hr hlk))))))))))))
set_option maxRecDepth 100000 in
set_option maxHeartbeats 4000000 in
theorem ctX0_isSameAs (l : Launch) : CI l yX0_isSameAs (ws_ yX0_isSameAs cX0_isSameAs 3 (some .boolean)) rmX0_isSameAs SX0_isSameAs := by
  refine mk_CI (by decide) ?_
  intro p e s m args below meth c G cy dC dI F hr hlk as M post hS
  unfold SX0_isSameAs at hS
  split at hS
  · rename_i t p0 t2 s0
    obtain ⟨rfl, hp, rfl, hs, hc, hS⟩ := hS
    have hc40 := cnt_le hc
    have hL : ∀ n, SO p l e rmX0_isSameAs s m args below meth c 0 0 (MQ below (QI G cy dC dI post) args s 0 0 (AW G)) 3 (AW G) G cy dC dI 26 ((fun (n : Nat) (lv : LV) (st : List AV) (M' : MM) => ∃ i : Nat, i ≤ cnt M p0 ∧ n = cnt M p0 - i ∧ M.1 4 p0 0 = M.1 4 s0 0 ∧ M.1 4 p0 1 = M.1 4 s0 1 ∧ (∀ j, j < i → xE M p0 s0 j = true) ∧ lv = [(0, .inr (4, p0)), (1, .inr (4, s0)), (2, .inl (.int (nI i)))] ∧ st = [] ∧ M' = M) n) := by
      refine SO_loop (fun K => BX0_isSameAs_26 post K) (fun K hK => sBX0_isSameAs_26 F hr hlk hK) (fun (n : Nat) (lv : LV) (st : List AV) (M' : MM) => ∃ i : Nat, i ≤ cnt M p0 ∧ n = cnt M p0 - i ∧ M.1 4 p0 0 = M.1 4 s0 0 ∧ M.1 4 p0 1 = M.1 4 s0 1 ∧ (∀ j, j < i → xE M p0 s0 j = true) ∧ lv = [(0, .inr (4, p0)), (1, .inr (4, s0)), (2, .inl (.int (nI i)))] ∧ st = [] ∧ M' = M) ?_
      intro n lv st M' ⟨i, hi, hn, k1, k2, hf, e1, e2, e3⟩
      subst e1; subst e2; subst e3
      simp only [BX0_isSameAs_0, BX0_isSameAs_26, BX0_isSameAs_78, i_push, i_iload, i_aload, i_istore, i_iinc, i_lcmp, i_dcmp, i_if, i_cmp, i_getI, i_getR, i_lald, i_dald, i_callV, i_zret, i_cut, lk, wd, rm1, rm2, pick, popn, catS, pushO, aLV, cond_true, cond_false, Bool.not_true, Bool.not_false, Bool.and_true, Bool.and_false, Bool.true_and, Bool.false_and, eq_self, true_and, and_true, Nat.reduceBEq, Nat.reduceAdd, reduceIte, Nat.reduceEqDiff, SX0_isOfReals]
      try simp only [tCnt, aK, aN, aR, eq_self, true_and, and_true, Nat.reduceLeDiff, Nat.reduceEqDiff]
      have hno : i < cnt M' p0 → xE M' p0 s0 i = false → post (some (.inl (.int 0))) M' := fun h1 h2 => by
        rw [fst0_eq (xE M' p0 s0) hi hf (Or.inr h2), b2i_f (fun h => absurd h.2.2 (by omega))] at hS
        exact hS
      simp only [b2i_0, Decidable.not_not]
      refine ⟨hp, fun c => ?_, fun c => ?_⟩
      · rw [lt_cnt hc (by omega)] at c
        rw [ncl (by omega)]
        have hv := vin (n := 40) (i := i) (by omega) (by omega)
        (repeat (first | refine And.intro hp ?_ | refine And.intro (by decide) ?_))
        refine ⟨fun c2 => ?_, fun c2 => ?_⟩
        · (repeat (first | refine And.intro hp ?_ | refine And.intro hv ?_ | refine And.intro hs ?_ | refine And.intro (by decide) ?_))
          have c2' : isR (M'.1 4 p0 0) = false := by simpa using c2
          refine ⟨fun c3 => ⟨n - 1, by omega, i + 1, by omega, by omega, k1, k2, fun j hj => (if e : j = i then by rw [e]; unfold xE; rw [c2']; simpa using c3 else hf j (by omega)), by rw [nI_1]⟩, fun c3 => ⟨by decide, hno c (by unfold xE; rw [c2']; simpa using c3)⟩⟩
        · (repeat (first | refine And.intro hp ?_ | refine And.intro hv ?_ | refine And.intro hs ?_ | refine And.intro (by decide) ?_))
          have c2' : isR (M'.1 4 p0 0) = true := by simpa using c2
          refine ⟨fun c3 => ⟨n - 1, by omega, i + 1, by omega, by omega, k1, k2, fun j hj => (if e : j = i then by rw [e]; unfold xE; rw [c2']; simpa using c3 else hf j (by omega)), by rw [nI_1]⟩, fun c3 => ⟨by decide, hno c (by unfold xE; rw [c2']; simpa using c3)⟩⟩
      · rw [lt_cnt hc (by omega)] at c
        refine ⟨by decide, ?_⟩
        rw [fst0_eq (xE M' p0 s0) hi hf (Or.inl (by omega)), b2i_t ⟨k1, k2, by omega⟩] at hS
        exact hS
    refine ⟨by simp only [lk, wd, rm1, rm2, pick, popn, catS, pushO, aLV, cond_true, cond_false, Bool.not_true, Bool.not_false, Bool.and_true, Bool.and_false, Bool.true_and, Bool.false_and, eq_self, true_and, and_true, Nat.reduceBEq, Nat.reduceAdd, reduceIte, Nat.reduceEqDiff]; decide, sBX0_isSameAs_0 F hr hlk (SO_or hL) _ _ _ ?_⟩
    simp only [BX0_isSameAs_0, BX0_isSameAs_26, BX0_isSameAs_78, i_push, i_iload, i_aload, i_istore, i_iinc, i_lcmp, i_dcmp, i_if, i_cmp, i_getI, i_getR, i_lald, i_dald, i_callV, i_zret, i_cut, lk, wd, rm1, rm2, pick, popn, catS, pushO, aLV, cond_true, cond_false, Bool.not_true, Bool.not_false, Bool.and_true, Bool.and_false, Bool.true_and, Bool.false_and, eq_self, true_and, and_true, Nat.reduceBEq, Nat.reduceAdd, reduceIte, Nat.reduceEqDiff, SX0_isOfReals]
    try simp only [tCnt, aK, aN, aR, eq_self, true_and, and_true, Nat.reduceLeDiff, Nat.reduceEqDiff]
    refine ⟨hp, hs, fun c => ⟨hp, hs, fun c2 => ⟨cnt M p0, 0, by omega, by omega, c, c2, fun j hj => absurd hj (Nat.not_lt_zero j), rfl⟩, fun c2 => ?_⟩, fun c => ?_⟩
    · rw [b2i_f (fun h => c2 h.2.1)] at hS
      exact ⟨by decide, hS⟩
    · rw [b2i_f (fun h => c h.1)] at hS
      exact ⟨by decide, hS⟩
  · exact hS.elim
