def tpN (M : MM) (s a p n : Nat) : Nat := fst0 (fun k => xFor M p (M.2.1 6 s (a + k)).toInt32) n
def x_tp (M : MM) (s a p b r : Nat) : MM := rL M 6 p (fun j => if b ≤ j ∧ j < b + r then (M.2.1 6 s (a + (j - b))).toInt32.toInt64 else M.2.1 6 p j)
theorem x_tp_0 (M : MM) (s a p b : Nat) : x_tp M s a p b 0 = M := by
  refine MM_ext (fun _ _ _ => rfl) (fun t i j => ?_) (fun _ _ _ => rfl)
  simp only [x_tp, rL]
  split
  · rename_i h; obtain ⟨rfl, rfl⟩ := h
    dsimp only
    rw [if_neg (by omega)]
  · rfl
theorem x_tp_s {M : MM} {s a p b r : Nat} (h : ¬ s = p) (j : Nat) : (x_tp M s a p b r).2.1 6 s j = M.2.1 6 s j := by
  simp only [x_tp, rL]
  rw [if_neg (fun q => h q.2)]
theorem x_tp_1 {M : MM} {s a p b r : Nat} : sL (x_tp M s a p b r) 6 p (b + r) (M.2.1 6 s (a + r)).toInt32.toInt64 = x_tp M s a p b (r + 1) := by
  refine MM_ext (fun _ _ _ => rfl) (fun t i j => ?_) (fun _ _ _ => rfl)
  simp only [x_tp, rL, sL]
  by_cases h : t = 6 ∧ i = p
  · obtain ⟨rfl, rfl⟩ := h
    by_cases hj : j = b + r
    · subst hj
      simp only [and_self, if_true]
      rw [if_pos (by omega), show b + r - b = r by omega]
    · simp only [true_and, hj, if_false, and_self, if_true]
      by_cases h3 : b ≤ j ∧ j < b + r
      · rw [if_pos h3, if_pos (by omega)]
      · rw [if_neg h3, if_neg (by omega)]
  · rw [if_neg (fun q => h ⟨q.1, q.2.1⟩), if_neg h, if_neg h]
theorem hC_in {M : MM} {p : Nat} {a n : Int32} (hc : cOK M p) (h : hC M p a n = true) : ∃ a' n', a = nI a' ∧ n = nI n' ∧ a' + n' ≤ cnt M p := by
  simp only [hC, Bool.and_eq_true, Bool.not_eq_true', decide_eq_false_iff_not] at h
  obtain ⟨h1, h2, h3⟩ := h
  obtain ⟨a', ha, rfl⟩ := nI_of h1
  obtain ⟨n', hn, rfl⟩ := nI_of h2
  refine ⟨a', n', rfl, rfl, ?_⟩
  rw [Int32.lt_iff_toInt_lt, Int32.toInt_sub, nI_toInt ha, nI_toInt hn] at h3
  have hle : (-1 : Int) ≤ (M.1 4 p 1).toInt ∧ (M.1 4 p 1).toInt ≤ 40 ∧ ((M.1 4 p 1).toInt = -1 ∨ (cnt M p : Int) = (M.1 4 p 1).toInt) := by
    rcases hc with e | ⟨m, hm, e⟩
    · rw [e]; exact ⟨by decide, by decide, Or.inl (by decide)⟩
    · unfold cnt
      rw [e, nI_toInt (by omega), nI_clamp (by omega)]
      omega
  have e32 : (2 ^ 32 : Nat) = 4294967296 := by decide
  rw [e32] at h3
  have eb : ((M.1 4 p 1).toInt - (a' : Int)).bmod 4294967296 = (M.1 4 p 1).toInt - (a' : Int) := by
    rw [Int.bmod_def]
    split <;> omega
  rw [eb] at h3
  omega
theorem s04_k (M : MM) (v : Int32) (p k : Nat) : (sI M 0 0 4 v).1 4 p k = M.1 4 p k := by simp [sI]
theorem s04_5 (M : MM) (v : Int32) (p k : Nat) : (sI M 0 0 4 v).1 5 p k = M.1 5 p k := by simp [sI]
theorem s04_3 (M : MM) (v : Int32) : (sI M 0 0 4 v).1 0 0 3 = M.1 0 0 3 := by simp [sI]
theorem s04_hC (M : MM) (v : Int32) (p : Nat) (a n : Int32) : hC (sI M 0 0 4 v) p a n = hC M p a n := by unfold hC; rw [s04_k]
theorem s04_xFor (M : MM) (v : Int32) (p : Nat) (j : Int32) : xFor (sI M 0 0 4 v) p j = xFor M p j := by unfold xFor isPt; rw [s04_k, s04_5, s04_3]
theorem s04_tpN (M : MM) (v : Int32) (s a p n : Nat) : tpN (sI M 0 0 4 v) s a p n = tpN M s a p n := by unfold tpN; simp only [s04_xFor]; rfl
def x_copy (M : MM) (f a g b n : Int32) : Int32 × MM := if isPl f = false ∨ isPl g = false then (-1, M) else if M.1 4 (cl f) 1 = -1 ∨ M.1 4 (cl g) 1 = -1 then (-11, sI M 0 0 4 0) else if ¬ M.1 4 (cl f) 0 = M.1 4 (cl g) 0 ∧ (M.1 4 (cl f) 0 < 7 ∨ M.1 4 (cl g) 0 < 7) then (-13, sI M 0 0 4 0) else if hC M (cl f) a n = false ∨ hC M (cl g) b n = false then (-12, sI M 0 0 4 0) else if M.1 4 (cl f) 0 = M.1 4 (cl g) 0 then (n, sI (c_take (sI M 0 0 4 0) (cl g) (cl f) (cl a) (cl b) (cl n)) 0 0 4 n)
  else (if nI (tpN M (cl f) (cl a) (cl g) (cl n)) < n then -14 else n, sI (x_tp (sI M 0 0 4 0) (cl f) (cl a) (cl g) (cl b) (tpN M (cl f) (cl a) (cl g) (cl n))) 0 0 4 (nI (tpN M (cl f) (cl a) (cl g) (cl n))))
theorem nI_cl {x : Int32} (h : ¬ x < 0) : x = nI (cl x) := by
  obtain ⟨j, hj, rfl⟩ := nI_of h
  unfold cl
  rw [nI_clamp hj]
theorem s4_at (M : MM) (v : Int32) : (sI M 0 0 4 v).1 0 0 4 = v := by simp [sI]
def x_as (M : MM) (a : Nat) : Nat → MM
  | 0 => M
  | n + 1 => c_like (x_as M a n) (24 + n) (6 * a + n)
def dig (r : Int32) (n : Nat) : Int32 := (r >>> ((3 * nI n) &&& 31)) &&& 7
def x_mv (M : MM) (b : Nat) (r : Int32) : Nat → Int32 × MM
  | 0 => (0, M)
  | n + 1 => ((x_mv M b r n).1 + (if (x_mbd (x_mv M b r n).2 (6 * b + n) (dig r n)).1 4 (6 * b + n) 0 = -1 then 0 else 1), x_mbd (x_mv M b r n).2 (6 * b + n) (dig r n))
def x_move (M : MM) (a b r : Int32) : Int32 × MM := if isMp a = false ∨ isMp b = false ∨ r < 0 ∨ 262143 < r then (-1, M) else x_mv (x_as M (cl a) 6) (cl b) r 6
theorem ix6 {a f : Nat} : (6 : Int32) * nI a + nI f = nI (6 * a + f) := by
  rw [show (6 : Int32) = nI 6 from rfl, pk_mul, nI_add]

def SX2_takeParts : SP := fun as M post => match as with
  | [.inr (t, i0), .inr (t2, s0), .inl (.int a), .inr (t3, p0), .inl (.int b), .inl (.int c)] => t = 0 ∧ i0 = 0 ∧ t2 = 4 ∧ s0 < 30 ∧ t3 = 4 ∧ p0 < 30 ∧ ¬ s0 = p0 ∧ (∃ n, n ≤ 40 ∧ M.1 0 0 3 = nI n) ∧ ∃ a' b' c', a = nI a' ∧ b = nI b' ∧ c = nI c' ∧ a' + c' ≤ 40 ∧ b' + c' ≤ 40 ∧ post (some (.inl (.int (nI (tpN M s0 a' p0 c'))))) (x_tp M s0 a' p0 b' (tpN M s0 a' p0 c'))
  | _ => False
abbrev rmX2_takeParts : Room := ({ frames := 2, cells := 0, slots := 0, locals := 120 } : Room)
def BX2_takeParts_3 (Qr : Option AV → MM → Prop) (K3 : PT) (lv : LV) (st : List AV) (M : MM) : Prop := (i_iload 6 (i_iload 5 (i_cmp (fun a b => a < b) (i_aload 1 (i_iload 2 (i_iload 6 (i_II (fun a b => a + b) (i_callV 1 4 SX0_heldPart (i_istore 7 (i_aload 0 (i_aload 3 (i_iload 7 (i_callV 2 0 SX2_isForPart (i_if (fun a => a = 0) (i_iload 6 (i_iret Qr)) (i_aload 3 (i_iload 4 (i_iload 6 (i_II (fun a b => a + b) (i_iload 7 (i_callV 2 4 SX0_holdPart (i_iinc 6 1 (i_cut [0, 1, 2, 3, 4, 5, 6] K3))))))))))))))))))) (i_iload 5 (i_iret Qr))))) lv st M
set_option maxRecDepth 100000 in
set_option maxHeartbeats 4000000 in
theorem sBX2_takeParts_3 {p : Program} {l : Launch} {e : Env} {s : State} {m : MethodId} {args : Array Value} {below : List Frame} {meth : Method} {c : Code} {G : Nat → Nat → Nat} {cy dC : Nat → ClassId} {dI : Nat → Nat → Nat} {Qr : Option AV → MM → Prop} {K3 : PT} (F : FX p m c cX2_takeParts 8 RX2 s args (AW G) G cy dC dI) (hr : meth.sig.returnType = (some .int)) (hlk : meth.locks = false) (h3 : SO p l e rmX2_takeParts s m args below meth c 0 0 (MQ below (QI G cy dC dI Qr) args s 0 0 (AW G)) 8 (AW G) G cy dC dI 3 K3) : SO p l e rmX2_takeParts s m args below meth c 0 0 (MQ below (QI G cy dC dI Qr) args s 0 0 (AW G)) 8 (AW G) G cy dC dI 3 (BX2_takeParts_3 Qr K3) := by
  exact (s_iload F dX2_takeParts_3 (s_iload F dX2_takeParts_5 (s_icmp_ge F dX2_takeParts_7 (by decide) (s_iload F dX2_takeParts_50 (s_iret F dX2_takeParts_52 hr hlk)) (s_aload_n F dX2_takeParts_10 rfl (s_iload_n F dX2_takeParts_11 rfl (s_iload F dX2_takeParts_12 (s_iadd F dX2_takeParts_14 (s_callVi F dX2_takeParts_15 (ctX0_heldPart l) (lw_V q241 q242 q243 q2 q244) ⟨rfl, rfl⟩ (by decide +kernel) (by decide) ⟨Nat.zero_le _, Nat.zero_le _⟩ (ci := 0) rfl (fun _ _ _ _ => ⟨_, rfl⟩) (s_istore F dX2_takeParts_18 (by decide) (s_aload_n F dX2_takeParts_20 rfl (s_aload_n F dX2_takeParts_21 rfl (s_iload F dX2_takeParts_22 (s_callVi F dX2_takeParts_24 (ctX2_isForPart l) (lw_V q221 q223 qs2 q1 q224) ⟨rfl, rfl⟩ (by decide +kernel) (by decide) ⟨Nat.zero_le _, Nat.zero_le _⟩ (ci := 2) rfl (fun _ _ _ _ => ⟨_, rfl⟩) (s_if_ne F dX2_takeParts_27 (by decide) (s_aload_n F dX2_takeParts_33 rfl (s_iload F dX2_takeParts_34 (s_iload F dX2_takeParts_36 (s_iadd F dX2_takeParts_38 (s_iload F dX2_takeParts_39 (s_callVv F dX2_takeParts_41 (ctX0_holdPart l) (lw_V q229 q230 q231 q2 q232) ⟨rfl, rfl⟩ (by decide +kernel) (by decide) ⟨Nat.zero_le _, Nat.zero_le _⟩ (ci := 0) rfl (fun _ _ _ _ => ⟨_, rfl⟩) (s_iinc F dX2_takeParts_44 (by decide) (by decide) (s_goto F dX2_takeParts_47 (by decide) (s_cut [0, 1, 2, 3, 4, 5, 6] h3))))))))) (s_iload F dX2_takeParts_30 (s_iret F dX2_takeParts_32 hr hlk))))))))))))))))
def BX2_takeParts_0 (Qr : Option AV → MM → Prop) (K3 : PT) (lv : LV) (st : List AV) (M : MM) : Prop := (i_push (.inl (.int 0)) (i_istore 6 (i_cut [0, 1, 2, 3, 4, 5, 6] K3))) lv st M
set_option maxRecDepth 100000 in
set_option maxHeartbeats 4000000 in
theorem sBX2_takeParts_0 {p : Program} {l : Launch} {e : Env} {s : State} {m : MethodId} {args : Array Value} {below : List Frame} {meth : Method} {c : Code} {G : Nat → Nat → Nat} {cy dC : Nat → ClassId} {dI : Nat → Nat → Nat} {Qr : Option AV → MM → Prop} {K3 : PT} (F : FX p m c cX2_takeParts 8 RX2 s args (AW G) G cy dC dI) (hr : meth.sig.returnType = (some .int)) (hlk : meth.locks = false) (h3 : SO p l e rmX2_takeParts s m args below meth c 0 0 (MQ below (QI G cy dC dI Qr) args s 0 0 (AW G)) 8 (AW G) G cy dC dI 3 K3) : SO p l e rmX2_takeParts s m args below meth c 0 0 (MQ below (QI G cy dC dI Qr) args s 0 0 (AW G)) 8 (AW G) G cy dC dI 0 (BX2_takeParts_0 Qr K3) := by
  exact (s_iconst F dX2_takeParts_0 (by decide) (s_istore F dX2_takeParts_1 (by decide) (s_cut [0, 1, 2, 3, 4, 5, 6] h3)))
set_option maxRecDepth 100000 in
set_option maxHeartbeats 4000000 in
theorem ctX2_takeParts (l : Launch) : CI l yX2_takeParts (ws_ yX2_takeParts cX2_takeParts 8 (some .int)) rmX2_takeParts SX2_takeParts := by
  refine mk_CI (by decide) ?_
  intro p e s m args below meth c G cy dC dI F hr hlk as M post hS
  unfold SX2_takeParts at hS
  split at hS
  · rename_i t i0 t2 s0 a t3 p0 b c
    obtain ⟨rfl, rfl, rfl, hs, rfl, hp, hne, hX, a', b', c', rfl, rfl, rfl, ha, hb, hS⟩ := hS
    have hL : ∀ n, SO p l e rmX2_takeParts s m args below meth c 0 0 (MQ below (QI G cy dC dI post) args s 0 0 (AW G)) 8 (AW G) G cy dC dI 3 ((fun (n : Nat) (lv : LV) (st : List AV) (M' : MM) => ∃ i : Nat, i ≤ c' ∧ n = c' - i ∧ (∀ j, j < i → xFor M p0 (M.2.1 6 s0 (a' + j)).toInt32 = true) ∧ lv = [(0, .inr (0, 0)), (1, .inr (4, s0)), (2, .inl (.int (nI a'))), (3, .inr (4, p0)), (4, .inl (.int (nI b'))), (5, .inl (.int (nI c'))), (6, .inl (.int (nI i)))] ∧ st = [] ∧ M' = x_tp M s0 a' p0 b' i) n) := by
      refine SO_loop (fun K => BX2_takeParts_3 post K) (fun K hK => sBX2_takeParts_3 F hr hlk hK) (fun (n : Nat) (lv : LV) (st : List AV) (M' : MM) => ∃ i : Nat, i ≤ c' ∧ n = c' - i ∧ (∀ j, j < i → xFor M p0 (M.2.1 6 s0 (a' + j)).toInt32 = true) ∧ lv = [(0, .inr (0, 0)), (1, .inr (4, s0)), (2, .inl (.int (nI a'))), (3, .inr (4, p0)), (4, .inl (.int (nI b'))), (5, .inl (.int (nI c'))), (6, .inl (.int (nI i)))] ∧ st = [] ∧ M' = x_tp M s0 a' p0 b' i) ?_
      intro n lv st M' ⟨i, hi, hn, hf, e1, e2, e3⟩
      subst e1; subst e2; subst e3
      simp only [BX2_takeParts_0, BX2_takeParts_3, i_push, i_iload, i_aload, i_istore, i_iinc, i_II, i_if, i_cmp, i_callV, i_iret, i_cut, lk, wd, rm1, rm2, pick, popn, catS, pushO, aLV, cond_true, cond_false, Bool.not_true, Bool.not_false, Bool.and_true, Bool.and_false, Bool.true_and, Bool.false_and, eq_self, true_and, and_true, Nat.reduceBEq, Nat.reduceAdd, reduceIte, Nat.reduceEqDiff, SX0_heldPart, SX0_holdPart, SX2_isForPart]
      try simp only [tCnt, aK, aN, aR, eq_self, true_and, and_true, Nat.reduceLeDiff, Nat.reduceEqDiff]
      have hxf : ∀ j, xFor (x_tp M s0 a' p0 b' i) p0 j = xFor M p0 j := fun j => rfl
      have hX' : ∃ n, n ≤ 40 ∧ (x_tp M s0 a' p0 b' i).1 0 0 3 = nI n := hX
      refine ⟨fun c => ?_, fun c => ?_⟩
      · have hlt : i < c' := (nI_ltI (by omega) (by omega)).mp c
        simp only [nI_add, hxf, b2i_0]
        rw [show (nI (a' + i)).toNatClampNeg = a' + i from ncl (by omega), show (nI (b' + i)).toNatClampNeg = b' + i from ncl (by omega), x_tp_s hne]
        have hv1 := vin (n := 40) (i := a' + i) (by omega) (by omega)
        have hv2 := vin (n := 40) (i := b' + i) (by omega) (by omega)
        (repeat (first | refine And.intro hs ?_ | refine And.intro hp ?_ | refine And.intro hv1 ?_ | refine And.intro hv2 ?_ | refine And.intro hX' ?_ | refine And.intro (by decide) ?_))
        refine ⟨fun c2 => ?_, fun c2 => ?_⟩
        · have c2' : xFor M p0 (M.2.1 6 s0 (a' + i)).toInt32 = false := by simpa using c2
          rw [show tpN M s0 a' p0 c' = i from fst0_eq (fun k => xFor M p0 (M.2.1 6 s0 (a' + k)).toInt32) hi hf (Or.inr c2')] at hS
          exact hS
        · have c2' : xFor M p0 (M.2.1 6 s0 (a' + i)).toInt32 = true := by simpa using c2
          (repeat (first | refine And.intro hs ?_ | refine And.intro hp ?_ | refine And.intro hv1 ?_ | refine And.intro hv2 ?_ | refine And.intro hX' ?_ | refine And.intro (by decide) ?_))
          exact ⟨n - 1, by omega, i + 1, by omega, by omega, fun j hj => (if e : j = i then by rw [e]; exact c2' else hf j (by omega)), by rw [nI_1], x_tp_1⟩
      · have hge : i = c' := by
          have := mt (nI_ltI (a := i) (b := c') (by omega) (by omega)).mpr c
          omega
        rw [show tpN M s0 a' p0 c' = i from fst0_eq (fun k => xFor M p0 (M.2.1 6 s0 (a' + k)).toInt32) hi hf (Or.inl hge)] at hS
        rw [← hge]
        exact hS
    refine ⟨by simp only [lk, wd, rm1, rm2, pick, popn, catS, pushO, aLV, cond_true, cond_false, Bool.not_true, Bool.not_false, Bool.and_true, Bool.and_false, Bool.true_and, Bool.false_and, eq_self, true_and, and_true, Nat.reduceBEq, Nat.reduceAdd, reduceIte, Nat.reduceEqDiff]; decide, sBX2_takeParts_0 F hr hlk (SO_or hL) _ _ _ ?_⟩
    simp only [BX2_takeParts_0, BX2_takeParts_3, i_push, i_iload, i_aload, i_istore, i_iinc, i_II, i_if, i_cmp, i_callV, i_iret, i_cut, lk, wd, rm1, rm2, pick, popn, catS, pushO, aLV, cond_true, cond_false, Bool.not_true, Bool.not_false, Bool.and_true, Bool.and_false, Bool.true_and, Bool.false_and, eq_self, true_and, and_true, Nat.reduceBEq, Nat.reduceAdd, reduceIte, Nat.reduceEqDiff, SX0_heldPart, SX0_holdPart, SX2_isForPart]
    try simp only [tCnt, aK, aN, aR, eq_self, true_and, and_true, Nat.reduceLeDiff, Nat.reduceEqDiff]
    exact ⟨c', 0, by omega, by omega, fun j hj => absurd hj (Nat.not_lt_zero j), rfl, (x_tp_0 _ _ _ _ _).symm⟩
  · exact hS.elim
def SX2_move : SP := fun as M post => match as with
  | [.inr (t, i0), .inl (.int a), .inl (.int b), .inl (.int r)] => t = 0 ∧ i0 = 0 ∧ post (some (.inl (.int (x_move M a b r).1))) (x_move M a b r).2
  | _ => False
abbrev rmX2_move : Room := ({ frames := 4, cells := 0, slots := 0, locals := 240 } : Room)
def BX2_move_121 (Qr : Option AV → MM → Prop) (K29 K70 : PT) (lv : LV) (st : List AV) (M : MM) : Prop := (i_II (fun a b => a + b) (i_istore 4 (i_iinc 5 1 (i_cut [0, 2, 3, 4, 5] K70)))) lv st M
set_option maxRecDepth 100000 in
set_option maxHeartbeats 4000000 in
theorem sBX2_move_121 {p : Program} {l : Launch} {e : Env} {s : State} {m : MethodId} {args : Array Value} {below : List Frame} {meth : Method} {c : Code} {G : Nat → Nat → Nat} {cy dC : Nat → ClassId} {dI : Nat → Nat → Nat} {Qr : Option AV → MM → Prop} {K29 K70 : PT} (F : FX p m c cX2_move 7 RX2 s args (AW G) G cy dC dI) (hr : meth.sig.returnType = (some .int)) (hlk : meth.locks = false) (h29 : SO p l e rmX2_move s m args below meth c 0 0 (MQ below (QI G cy dC dI Qr) args s 0 0 (AW G)) 7 (AW G) G cy dC dI 29 K29) (h70 : SO p l e rmX2_move s m args below meth c 0 0 (MQ below (QI G cy dC dI Qr) args s 0 0 (AW G)) 7 (AW G) G cy dC dI 70 K70) : SO p l e rmX2_move s m args below meth c 0 0 (MQ below (QI G cy dC dI Qr) args s 0 0 (AW G)) 7 (AW G) G cy dC dI 121 (BX2_move_121 Qr K29 K70) := by
  exact (s_iadd F dX2_move_121 (s_istore F dX2_move_122 (by decide) (s_iinc F dX2_move_124 (by decide) (by decide) (s_goto F dX2_move_127 (by decide) (s_cut [0, 2, 3, 4, 5] h70)))))
def BX2_move_70 (Qr : Option AV → MM → Prop) (K29 K70 : PT) (lv : LV) (st : List AV) (M : MM) : Prop := (i_iload 5 (i_push (.inl (.int 6)) (i_cmp (fun a b => a < b) (i_aload 0 (i_getR 0 1 (fun _ => 0) (i_push (.inl (.int 6)) (i_iload 2 (i_II (fun a b => a * b) (i_iload 5 (i_II (fun a b => a + b) (i_aald (i_astore 6 (i_aload 0 (i_aload 6 (i_iload 3 (i_push (.inl (.int 3)) (i_iload 5 (i_II (fun a b => a * b) (i_II (fun a b => a >>> (b &&& 31)) (i_push (.inl (.int 7)) (i_II (fun a b => a &&& b) (i_callV 2 0 SX2_moveByDigit (i_iload 4 (i_aload 6 (i_callV 0 4 SX0_isNone (i_if (fun a => a = 0) (i_push (.inl (.int 1)) (i_cut [0, 2, 3, 5] (BX2_move_121 Qr K29 K70))) (i_push (.inl (.int 0)) (i_cut [0, 2, 3, 5] (BX2_move_121 Qr K29 K70)))))))))))))))))))))))))) (i_iload 4 (i_iret Qr))))) lv st M
set_option maxRecDepth 100000 in
set_option maxHeartbeats 4000000 in
theorem sBX2_move_70 {p : Program} {l : Launch} {e : Env} {s : State} {m : MethodId} {args : Array Value} {below : List Frame} {meth : Method} {c : Code} {G : Nat → Nat → Nat} {cy dC : Nat → ClassId} {dI : Nat → Nat → Nat} {Qr : Option AV → MM → Prop} {K29 K70 : PT} (F : FX p m c cX2_move 7 RX2 s args (AW G) G cy dC dI) (hr : meth.sig.returnType = (some .int)) (hlk : meth.locks = false) (h29 : SO p l e rmX2_move s m args below meth c 0 0 (MQ below (QI G cy dC dI Qr) args s 0 0 (AW G)) 7 (AW G) G cy dC dI 29 K29) (h70 : SO p l e rmX2_move s m args below meth c 0 0 (MQ below (QI G cy dC dI Qr) args s 0 0 (AW G)) 7 (AW G) G cy dC dI 70 K70) : SO p l e rmX2_move s m args below meth c 0 0 (MQ below (QI G cy dC dI Qr) args s 0 0 (AW G)) 7 (AW G) G cy dC dI 70 (BX2_move_70 Qr K29 K70) := by
  exact (s_iload F dX2_move_70 (s_bipush F dX2_move_72 (by decide) (s_icmp_ge F dX2_move_74 (by decide) (s_iload F dX2_move_130 (s_iret F dX2_move_132 hr hlk)) (s_aload_n F dX2_move_77 rfl (s_getR F (ci := 2) (f := 0) dX2_move_78 rfl in_X2 (by decide) q69 (fun _ _ _ _ => ⟨_, rfl, rfl⟩) (s_bipush F dX2_move_81 (by decide) (s_iload_n F dX2_move_83 rfl (s_imul F dX2_move_84 (s_iload F dX2_move_85 (s_iadd F dX2_move_87 (s_aald F dX2_move_88 (s_astore F dX2_move_89 (by decide) (s_aload_n F dX2_move_91 rfl (s_aload F dX2_move_92 (s_iload_n F dX2_move_94 rfl (s_iconst F dX2_move_95 (by decide) (s_iload F dX2_move_96 (s_imul F dX2_move_98 (s_ishr F dX2_move_99 (s_bipush F dX2_move_100 (by decide) (s_iand F dX2_move_102 (s_callVv F dX2_move_103 (ctX2_moveByDigit l) (lw_V q297 q299 qs5 q1 q300) ⟨rfl, rfl⟩ (by decide +kernel) (by decide) ⟨Nat.zero_le _, Nat.zero_le _⟩ (ci := 2) rfl (fun _ _ _ _ => ⟨_, rfl⟩) (s_iload F dX2_move_106 (s_aload F dX2_move_108 (s_callVi F dX2_move_110 (ctX0_isNone l) (lw_V q123 q124 q125 q2 q126) ⟨rfl, rfl⟩ (by decide +kernel) (by decide) ⟨Nat.zero_le _, Nat.zero_le _⟩ (ci := 0) rfl (fun _ _ _ _ => ⟨_, rfl⟩) (s_if_eq F dX2_move_113 (by decide) (s_iconst F dX2_move_120 (by decide) (s_cut [0, 2, 3, 5] (sBX2_move_121 F hr hlk h29 h70))) (s_iconst F dX2_move_116 (by decide) (s_goto F dX2_move_117 (by decide) (s_cut [0, 2, 3, 5] (sBX2_move_121 F hr hlk h29 h70))))))))))))))))))))))))))))))
def BX2_move_29 (Qr : Option AV → MM → Prop) (K29 K70 : PT) (lv : LV) (st : List AV) (M : MM) : Prop := (i_iload 4 (i_push (.inl (.int 6)) (i_cmp (fun a b => a < b) (i_aload 0 (i_getR 0 2 (fun _ => 0) (i_iload 4 (i_aald (i_aload 0 (i_getR 0 1 (fun _ => 0) (i_push (.inl (.int 6)) (i_iload 1 (i_II (fun a b => a * b) (i_iload 4 (i_II (fun a b => a + b) (i_aald (i_callV 1 4 SX0_becomeLike (i_iinc 4 1 (i_cut [0, 1, 2, 3, 4] K29))))))))))))))) (i_push (.inl (.int 0)) (i_istore 4 (i_push (.inl (.int 0)) (i_istore 5 (i_cut [0, 2, 3, 4, 5] K70)))))))) lv st M
set_option maxRecDepth 100000 in
set_option maxHeartbeats 4000000 in
theorem sBX2_move_29 {p : Program} {l : Launch} {e : Env} {s : State} {m : MethodId} {args : Array Value} {below : List Frame} {meth : Method} {c : Code} {G : Nat → Nat → Nat} {cy dC : Nat → ClassId} {dI : Nat → Nat → Nat} {Qr : Option AV → MM → Prop} {K29 K70 : PT} (F : FX p m c cX2_move 7 RX2 s args (AW G) G cy dC dI) (hr : meth.sig.returnType = (some .int)) (hlk : meth.locks = false) (h29 : SO p l e rmX2_move s m args below meth c 0 0 (MQ below (QI G cy dC dI Qr) args s 0 0 (AW G)) 7 (AW G) G cy dC dI 29 K29) (h70 : SO p l e rmX2_move s m args below meth c 0 0 (MQ below (QI G cy dC dI Qr) args s 0 0 (AW G)) 7 (AW G) G cy dC dI 70 K70) : SO p l e rmX2_move s m args below meth c 0 0 (MQ below (QI G cy dC dI Qr) args s 0 0 (AW G)) 7 (AW G) G cy dC dI 29 (BX2_move_29 Qr K29 K70) := by
  exact (s_iload F dX2_move_29 (s_bipush F dX2_move_31 (by decide) (s_icmp_ge F dX2_move_33 (by decide) (s_iconst F dX2_move_64 (by decide) (s_istore F dX2_move_65 (by decide) (s_iconst F dX2_move_67 (by decide) (s_istore F dX2_move_68 (by decide) (s_cut [0, 2, 3, 4, 5] h70))))) (s_aload_n F dX2_move_36 rfl (s_getR F (ci := 2) (f := 1) dX2_move_37 rfl in_X2 (by decide) q70 (fun _ _ _ _ => ⟨_, rfl, rfl⟩) (s_iload F dX2_move_40 (s_aald F dX2_move_42 (s_aload_n F dX2_move_43 rfl (s_getR F (ci := 2) (f := 0) dX2_move_44 rfl in_X2 (by decide) q69 (fun _ _ _ _ => ⟨_, rfl, rfl⟩) (s_bipush F dX2_move_47 (by decide) (s_iload_n F dX2_move_49 rfl (s_imul F dX2_move_50 (s_iload F dX2_move_51 (s_iadd F dX2_move_53 (s_aald F dX2_move_54 (s_callVv F dX2_move_55 (ctX0_becomeLike l) (lw_V q292 q293 q294 q2 q295) ⟨rfl, rfl⟩ (by decide +kernel) (by decide) ⟨Nat.zero_le _, Nat.zero_le _⟩ (ci := 0) rfl (fun _ _ _ _ => ⟨_, rfl⟩) (s_iinc F dX2_move_58 (by decide) (by decide) (s_goto F dX2_move_61 (by decide) (s_cut [0, 1, 2, 3, 4] h29)))))))))))))))))))
def BX2_move_0 (Qr : Option AV → MM → Prop) (K29 K70 : PT) (lv : LV) (st : List AV) (M : MM) : Prop := (i_iload 1 (i_call 1 SX2_isMapping (i_if (fun a => a = 0) (i_push (.inl (.int (-1))) (i_iret Qr)) (i_iload 2 (i_call 1 SX2_isMapping (i_if (fun a => a = 0) (i_push (.inl (.int (-1))) (i_iret Qr)) (i_iload 3 (i_if (fun a => a < 0) (i_push (.inl (.int (-1))) (i_iret Qr)) (i_iload 3 (i_push (.inl (.int 262143)) (i_cmp (fun a b => b < a) (i_push (.inl (.int (-1))) (i_iret Qr)) (i_push (.inl (.int 0)) (i_istore 4 (i_cut [0, 1, 2, 3, 4] K29)))))))))))))) lv st M
set_option maxRecDepth 100000 in
set_option maxHeartbeats 4000000 in
theorem sBX2_move_0 {p : Program} {l : Launch} {e : Env} {s : State} {m : MethodId} {args : Array Value} {below : List Frame} {meth : Method} {c : Code} {G : Nat → Nat → Nat} {cy dC : Nat → ClassId} {dI : Nat → Nat → Nat} {Qr : Option AV → MM → Prop} {K29 K70 : PT} (F : FX p m c cX2_move 7 RX2 s args (AW G) G cy dC dI) (hr : meth.sig.returnType = (some .int)) (hlk : meth.locks = false) (h29 : SO p l e rmX2_move s m args below meth c 0 0 (MQ below (QI G cy dC dI Qr) args s 0 0 (AW G)) 7 (AW G) G cy dC dI 29 K29) (h70 : SO p l e rmX2_move s m args below meth c 0 0 (MQ below (QI G cy dC dI Qr) args s 0 0 (AW G)) 7 (AW G) G cy dC dI 70 K70) : SO p l e rmX2_move s m args below meth c 0 0 (MQ below (QI G cy dC dI Qr) args s 0 0 (AW G)) 7 (AW G) G cy dC dI 0 (BX2_move_0 Qr K29 K70) := by
  exact (s_iload_n F dX2_move_0 rfl (s_callSi F dX2_move_1 (ctX2_isMapping l) (lw_S q288 q289 q1 q290) ⟨rfl, rfl⟩ (by decide +kernel) (by decide) ⟨Nat.zero_le _, Nat.zero_le _⟩ (s_if_eq F dX2_move_4 (by decide) (s_iconst F dX2_move_24 (by decide) (s_iret F dX2_move_25 hr hlk)) (s_iload_n F dX2_move_7 rfl (s_callSi F dX2_move_8 (ctX2_isMapping l) (lw_S q288 q289 q1 q290) ⟨rfl, rfl⟩ (by decide +kernel) (by decide) ⟨Nat.zero_le _, Nat.zero_le _⟩ (s_if_eq F dX2_move_11 (by decide) (s_iconst F dX2_move_24 (by decide) (s_iret F dX2_move_25 hr hlk)) (s_iload_n F dX2_move_14 rfl (s_if_lt F dX2_move_15 (by decide) (s_iconst F dX2_move_24 (by decide) (s_iret F dX2_move_25 hr hlk)) (s_iload_n F dX2_move_18 rfl (s_ldc F dX2_move_19 q291 (s_icmp_le F dX2_move_21 (by decide) (s_iconst F dX2_move_26 (by decide) (s_istore F dX2_move_27 (by decide) (s_cut [0, 1, 2, 3, 4] h29))) (s_iconst F dX2_move_24 (by decide) (s_iret F dX2_move_25 hr hlk)))))))))))))
set_option maxRecDepth 100000 in
set_option maxHeartbeats 4000000 in
theorem ctX2_move (l : Launch) : CI l yX2_move (ws_ yX2_move cX2_move 7 (some .int)) rmX2_move SX2_move := by
  refine mk_CI (by decide) ?_
  intro p e s m args below meth c G cy dC dI F hr hlk as M post hS
  unfold SX2_move at hS
  split at hS
  · rename_i t i0 a b r
    obtain ⟨rfl, rfl, hS⟩ := hS
    by_cases hbad : isMp a = false ∨ isMp b = false ∨ r < 0 ∨ 262143 < r
    · refine ⟨by simp only [lk, wd, rm1, rm2, pick, popn, catS, pushO, aLV, cond_true, cond_false, Bool.not_true, Bool.not_false, Bool.and_true, Bool.and_false, Bool.true_and, Bool.false_and, eq_self, true_and, and_true, Nat.reduceBEq, Nat.reduceAdd, reduceIte, Nat.reduceEqDiff]; decide, sBX2_move_0 F hr hlk SO_no SO_no _ _ _ ?_⟩
      simp only [BX2_move_0, BX2_move_29, BX2_move_70, BX2_move_121, i_push, i_iload, i_aload, i_istore, i_astore, i_iinc, i_II, i_if, i_cmp, i_getR, i_aald, i_call, i_callV, i_iret, i_cut, lk, wd, rm1, rm2, pick, popn, catS, pushO, aLV, cond_true, cond_false, Bool.not_true, Bool.not_false, Bool.and_true, Bool.and_false, Bool.true_and, Bool.false_and, eq_self, true_and, and_true, Nat.reduceBEq, Nat.reduceAdd, reduceIte, Nat.reduceEqDiff, SX0_becomeLike, SX0_isNone, SX2_isMapping, SX2_moveByDigit]
      try simp only [tCnt, aK, aN, aR, eq_self, true_and, and_true, Nat.reduceLeDiff, Nat.reduceEqDiff]
      rw [show x_move M a b r = (-1, M) from if_pos hbad] at hS
      simp only [b2i_0, Bool.not_eq_true, Bool.not_eq_false]
      (repeat' (first | with_reducible assumption | apply And.intro | intro _)) <;> (first | with_reducible assumption | simp_all)
    · have hx : x_move M a b r = x_mv (x_as M (cl a) 6) (cl b) r 6 := if_neg hbad
      rw [hx] at hS
      simp only [not_or, Bool.not_eq_false] at hbad
      obtain ⟨ha, hb, hr0, hr1⟩ := hbad
      have hma := ha
      have hmb := hb
      obtain ⟨a', ha', rfl⟩ := isMp_in ha
      obtain ⟨b', hb', rfl⟩ := isMp_in hb
      rw [show cl (nI a') = a' from ncl (by omega), show cl (nI b') = b' from ncl (by omega)] at hS
      have h70 : ∀ n, SO p l e rmX2_move s m args below meth c 0 0 (MQ below (QI G cy dC dI post) args s 0 0 (AW G)) 7 (AW G) G cy dC dI 70 ((fun (n : Nat) (lv : LV) (st : List AV) (M' : MM) => ∃ i : Nat, i ≤ 6 ∧ n = 6 - i ∧ lv = [(0, .inr (0, 0)), (2, .inl (.int (nI b'))), (3, .inl (.int r)), (4, .inl (.int (x_mv (x_as M a' 6) b' r i).1)), (5, .inl (.int (nI i)))] ∧ st = [] ∧ M' = (x_mv (x_as M a' 6) b' r i).2) n) := by
        refine SO_loop (fun K => BX2_move_70 post (fun _ _ _ => False) K) (fun K hK => sBX2_move_70 F hr hlk SO_no hK) (fun (n : Nat) (lv : LV) (st : List AV) (M' : MM) => ∃ i : Nat, i ≤ 6 ∧ n = 6 - i ∧ lv = [(0, .inr (0, 0)), (2, .inl (.int (nI b'))), (3, .inl (.int r)), (4, .inl (.int (x_mv (x_as M a' 6) b' r i).1)), (5, .inl (.int (nI i)))] ∧ st = [] ∧ M' = (x_mv (x_as M a' 6) b' r i).2) ?_
        intro n lv st M' ⟨i, hi, hn, e1, e2, e3⟩
        subst e1; subst e2; subst e3
        simp only [BX2_move_0, BX2_move_29, BX2_move_70, BX2_move_121, i_push, i_iload, i_aload, i_istore, i_astore, i_iinc, i_II, i_if, i_cmp, i_getR, i_aald, i_call, i_callV, i_iret, i_cut, lk, wd, rm1, rm2, pick, popn, catS, pushO, aLV, cond_true, cond_false, Bool.not_true, Bool.not_false, Bool.and_true, Bool.and_false, Bool.true_and, Bool.false_and, eq_self, true_and, and_true, Nat.reduceBEq, Nat.reduceAdd, reduceIte, Nat.reduceEqDiff, SX0_becomeLike, SX0_isNone, SX2_isMapping, SX2_moveByDigit]
        try simp only [tCnt, aK, aN, aR, eq_self, true_and, and_true, Nat.reduceLeDiff, Nat.reduceEqDiff]
        refine ⟨fun c => ?_, fun c => ?_⟩
        · have hlt : i < 6 := (nI_ltI (by omega) (by omega)).mp c
          have hv := vin (n := 24) (i := 6 * b' + i) (by omega) (by omega)
          have h30 : 6 * b' + i < 30 := by omega
          simp only [ix6, b2i_0, Decidable.not_not]
          rw [show (nI (6 * b' + i)).toNatClampNeg = 6 * b' + i from ncl (by omega)]
          (repeat (first | refine And.intro hv ?_ | refine And.intro h30 ?_ | refine And.intro (by decide) ?_))
          refine ⟨fun c2 => ?_, fun c2 => ?_⟩
          · (repeat (first | refine And.intro hv ?_ | refine And.intro h30 ?_ | refine And.intro (by decide) ?_))
            refine ⟨n - 1, by omega, i + 1, by omega, by omega, ?_, rfl⟩
            rw [nI_1]
            show _ = [_, _, _, (4, Sum.inl (Value.int ((x_mv (x_as M a' 6) b' r i).1 + (if (x_mbd (x_mv (x_as M a' 6) b' r i).2 (6 * b' + i) (dig r i)).1 4 (6 * b' + i) 0 = -1 then 0 else 1)))), _]
            rw [if_neg (show ¬ (x_mbd (x_mv (x_as M a' 6) b' r i).2 (6 * b' + i) (dig r i)).1 4 (6 * b' + i) 0 = -1 from c2)]
          · (repeat (first | refine And.intro hv ?_ | refine And.intro h30 ?_ | refine And.intro (by decide) ?_))
            refine ⟨n - 1, by omega, i + 1, by omega, by omega, ?_, rfl⟩
            rw [nI_1]
            show _ = [_, _, _, (4, Sum.inl (Value.int ((x_mv (x_as M a' 6) b' r i).1 + (if (x_mbd (x_mv (x_as M a' 6) b' r i).2 (6 * b' + i) (dig r i)).1 4 (6 * b' + i) 0 = -1 then 0 else 1)))), _]
            rw [if_pos (show (x_mbd (x_mv (x_as M a' 6) b' r i).2 (6 * b' + i) (dig r i)).1 4 (6 * b' + i) 0 = -1 from c2)]
        · have hge : i = 6 := by
            have := mt (nI_ltI (a := i) (b := 6) (by omega) (by omega)).mpr c
            omega
          subst hge
          exact hS
      have h29 : ∀ n, SO p l e rmX2_move s m args below meth c 0 0 (MQ below (QI G cy dC dI post) args s 0 0 (AW G)) 7 (AW G) G cy dC dI 29 ((fun (n : Nat) (lv : LV) (st : List AV) (M' : MM) => ∃ i : Nat, i ≤ 6 ∧ n = 6 - i ∧ lv = [(0, .inr (0, 0)), (1, .inl (.int (nI a'))), (2, .inl (.int (nI b'))), (3, .inl (.int r)), (4, .inl (.int (nI i)))] ∧ st = [] ∧ M' = x_as M a' i) n) := by
        refine SO_loop (fun K => BX2_move_29 post K (fun lv st M' => ∃ n, (fun (n : Nat) (lv : LV) (st : List AV) (M' : MM) => ∃ i : Nat, i ≤ 6 ∧ n = 6 - i ∧ lv = [(0, .inr (0, 0)), (2, .inl (.int (nI b'))), (3, .inl (.int r)), (4, .inl (.int (x_mv (x_as M a' 6) b' r i).1)), (5, .inl (.int (nI i)))] ∧ st = [] ∧ M' = (x_mv (x_as M a' 6) b' r i).2) n lv st M')) (fun K hK => sBX2_move_29 F hr hlk hK (SO_or h70)) (fun (n : Nat) (lv : LV) (st : List AV) (M' : MM) => ∃ i : Nat, i ≤ 6 ∧ n = 6 - i ∧ lv = [(0, .inr (0, 0)), (1, .inl (.int (nI a'))), (2, .inl (.int (nI b'))), (3, .inl (.int r)), (4, .inl (.int (nI i)))] ∧ st = [] ∧ M' = x_as M a' i) ?_
        intro n lv st M' ⟨i, hi, hn, e1, e2, e3⟩
        subst e1; subst e2; subst e3
        simp only [BX2_move_0, BX2_move_29, BX2_move_70, BX2_move_121, i_push, i_iload, i_aload, i_istore, i_astore, i_iinc, i_II, i_if, i_cmp, i_getR, i_aald, i_call, i_callV, i_iret, i_cut, lk, wd, rm1, rm2, pick, popn, catS, pushO, aLV, cond_true, cond_false, Bool.not_true, Bool.not_false, Bool.and_true, Bool.and_false, Bool.true_and, Bool.false_and, eq_self, true_and, and_true, Nat.reduceBEq, Nat.reduceAdd, reduceIte, Nat.reduceEqDiff, SX0_becomeLike, SX0_isNone, SX2_isMapping, SX2_moveByDigit]
        try simp only [tCnt, aK, aN, aR, eq_self, true_and, and_true, Nat.reduceLeDiff, Nat.reduceEqDiff]
        refine ⟨fun c => ?_, fun c => ?_⟩
        · have hlt : i < 6 := (nI_ltI (by omega) (by omega)).mp c
          have hv := vin (n := 24) (i := 6 * a' + i) (by omega) (by omega)
          have hv6 := vin (n := 6) (i := i) (by omega) (by omega)
          have h30 : 6 * a' + i < 30 := by omega
          have h24 : 24 + i < 30 := by omega
          simp only [ix6]
          rw [show (nI (6 * a' + i)).toNatClampNeg = 6 * a' + i from ncl (by omega), show (nI i).toNatClampNeg = i from ncl (by omega)]
          (repeat (first | refine And.intro hv ?_ | refine And.intro hv6 ?_ | refine And.intro h30 ?_ | refine And.intro h24 ?_ | refine And.intro (by decide) ?_))
          exact ⟨n - 1, by omega, i + 1, by omega, by omega, by rw [nI_1], rfl⟩
        · have hge : i = 6 := by
            have := mt (nI_ltI (a := i) (b := 6) (by omega) (by omega)).mpr c
            omega
          subst hge
          exact ⟨6, 0, by omega, by omega, rfl, rfl⟩
      refine ⟨by simp only [lk, wd, rm1, rm2, pick, popn, catS, pushO, aLV, cond_true, cond_false, Bool.not_true, Bool.not_false, Bool.and_true, Bool.and_false, Bool.true_and, Bool.false_and, eq_self, true_and, and_true, Nat.reduceBEq, Nat.reduceAdd, reduceIte, Nat.reduceEqDiff]; decide, sBX2_move_0 F hr hlk (SO_or h29) (SO_or h70) _ _ _ ?_⟩
      simp only [BX2_move_0, BX2_move_29, BX2_move_70, BX2_move_121, i_push, i_iload, i_aload, i_istore, i_astore, i_iinc, i_II, i_if, i_cmp, i_getR, i_aald, i_call, i_callV, i_iret, i_cut, lk, wd, rm1, rm2, pick, popn, catS, pushO, aLV, cond_true, cond_false, Bool.not_true, Bool.not_false, Bool.and_true, Bool.and_false, Bool.true_and, Bool.false_and, eq_self, true_and, and_true, Nat.reduceBEq, Nat.reduceAdd, reduceIte, Nat.reduceEqDiff, SX0_becomeLike, SX0_isNone, SX2_isMapping, SX2_moveByDigit]
      try simp only [tCnt, aK, aN, aR, eq_self, true_and, and_true, Nat.reduceLeDiff, Nat.reduceEqDiff]
      simp only [hma, hmb, b2i_0, hr0, hr1, not_true_eq_false, not_false_eq_true, false_implies, true_implies, true_and, and_true]
      exact ⟨6, 0, by omega, by omega, rfl, rfl⟩
  · exact hS.elim
def SX2_copy : SP := fun as M post => match as with
  | [.inr (t, i0), .inl (.int f), .inl (.int a), .inl (.int g), .inl (.int b), .inl (.int n)] => t = 0 ∧ i0 = 0 ∧ XOK M ∧ post (some (.inl (.int (x_copy M f a g b n).1))) (x_copy M f a g b n).2
  | _ => False
abbrev rmX2_copy : Room := ({ frames := 3, cells := 0, slots := 0, locals := 180 } : Room)
def BX2_copy_165 (Qr : Option AV → MM → Prop) (lv : LV) (st : List AV) (M : MM) : Prop := (i_aload 0 (i_getI 0 4 (i_iload 5 (i_cmp (fun a b => a < b) (i_push (.inl (.int (-14))) (i_iret Qr)) (i_iload 5 (i_iret Qr)))))) lv st M
set_option maxRecDepth 100000 in
set_option maxHeartbeats 4000000 in
theorem sBX2_copy_165 {p : Program} {l : Launch} {e : Env} {s : State} {m : MethodId} {args : Array Value} {below : List Frame} {meth : Method} {c : Code} {G : Nat → Nat → Nat} {cy dC : Nat → ClassId} {dI : Nat → Nat → Nat} {Qr : Option AV → MM → Prop} (F : FX p m c cX2_copy 8 RX2 s args (AW G) G cy dC dI) (hr : meth.sig.returnType = (some .int)) (hlk : meth.locks = false) : SO p l e rmX2_copy s m args below meth c 0 0 (MQ below (QI G cy dC dI Qr) args s 0 0 (AW G)) 8 (AW G) G cy dC dI 165 (BX2_copy_165 Qr) := by
  exact (s_aload_n F dX2_copy_165 rfl (s_getI F (ci := 2) dX2_copy_166 rfl in_X2 (by decide) q73 (fun _ _ _ _ => ⟨_, rfl, rfl⟩) (s_iload F dX2_copy_169 (s_icmp_ge F dX2_copy_171 (by decide) (s_iload F dX2_copy_179 (s_iret F dX2_copy_181 hr hlk)) (s_bipush F dX2_copy_174 (by decide) (s_goto F dX2_copy_176 (by decide) (s_iret F dX2_copy_181 hr hlk)))))))
def BX2_copy_88 (Qr : Option AV → MM → Prop) (lv : LV) (st : List AV) (M : MM) : Prop := (i_aload 6 (i_iload 2 (i_iload 5 (i_callV 2 4 SX0_hasCells (i_if (fun a => a = 0) (i_push (.inl (.int (-12))) (i_iret Qr)) (i_aload 7 (i_iload 4 (i_iload 5 (i_callV 2 4 SX0_hasCells (i_if (fun a => a = 0) (i_push (.inl (.int (-12))) (i_iret Qr)) (i_aload 6 (i_getI 4 0 (i_aload 7 (i_getI 4 0 (i_cmp (fun a b => a = b) (i_aload 7 (i_aload 6 (i_iload 2 (i_iload 4 (i_iload 5 (i_callV 4 4 SX0_takeCells (i_aload 0 (i_iload 5 (i_putI 0 4 (i_cut [0, 5] (BX2_copy_165 Qr))))))))))) (i_aload 0 (i_aload 0 (i_aload 6 (i_iload 2 (i_aload 7 (i_iload 4 (i_iload 5 (i_callV 5 0 SX2_takeParts (i_putI 0 4 (i_cut [0, 5] (BX2_copy_165 Qr)))))))))))))))))))))))))) lv st M
set_option maxRecDepth 100000 in
set_option maxHeartbeats 4000000 in
theorem sBX2_copy_88 {p : Program} {l : Launch} {e : Env} {s : State} {m : MethodId} {args : Array Value} {below : List Frame} {meth : Method} {c : Code} {G : Nat → Nat → Nat} {cy dC : Nat → ClassId} {dI : Nat → Nat → Nat} {Qr : Option AV → MM → Prop} (F : FX p m c cX2_copy 8 RX2 s args (AW G) G cy dC dI) (hr : meth.sig.returnType = (some .int)) (hlk : meth.locks = false) : SO p l e rmX2_copy s m args below meth c 0 0 (MQ below (QI G cy dC dI Qr) args s 0 0 (AW G)) 8 (AW G) G cy dC dI 88 (BX2_copy_88 Qr) := by
  exact (s_aload F dX2_copy_88 (s_iload_n F dX2_copy_90 rfl (s_iload F dX2_copy_91 (s_callVi F dX2_copy_93 (ctX0_hasCells l) (lw_V q265 q266 q267 q2 q268) ⟨rfl, rfl⟩ (by decide +kernel) (by decide) ⟨Nat.zero_le _, Nat.zero_le _⟩ (ci := 0) rfl (fun _ _ _ _ => ⟨_, rfl⟩) (s_if_eq F dX2_copy_96 (by decide) (s_bipush F dX2_copy_111 (by decide) (s_iret F dX2_copy_113 hr hlk)) (s_aload F dX2_copy_99 (s_iload F dX2_copy_101 (s_iload F dX2_copy_103 (s_callVi F dX2_copy_105 (ctX0_hasCells l) (lw_V q265 q266 q267 q2 q268) ⟨rfl, rfl⟩ (by decide +kernel) (by decide) ⟨Nat.zero_le _, Nat.zero_le _⟩ (ci := 0) rfl (fun _ _ _ _ => ⟨_, rfl⟩) (s_if_ne F dX2_copy_108 (by decide) (s_aload F dX2_copy_114 (s_getIN F (ci := 0) (host := "MappingMoves") dX2_copy_116 rfl in_X0 (by decide) (by decide +kernel) (fun _ _ _ _ => ⟨_, rfl, rfl⟩) (s_aload F dX2_copy_119 (s_getIN F (ci := 0) (host := "MappingMoves") dX2_copy_121 rfl in_X0 (by decide) (by decide +kernel) (fun _ _ _ _ => ⟨_, rfl, rfl⟩) (s_icmp_ne F dX2_copy_124 (by decide) (s_aload_n F dX2_copy_148 rfl (s_aload_n F dX2_copy_149 rfl (s_aload F dX2_copy_150 (s_iload_n F dX2_copy_152 rfl (s_aload F dX2_copy_153 (s_iload F dX2_copy_155 (s_iload F dX2_copy_157 (s_callVi F dX2_copy_159 (ctX2_takeParts l) (lw_V q276 q278 qs4 q1 q279) ⟨rfl, rfl⟩ (by decide +kernel) (by decide) ⟨Nat.zero_le _, Nat.zero_le _⟩ (ci := 2) rfl (fun _ _ _ _ => ⟨_, rfl⟩) (s_putI F (ci := 2) dX2_copy_162 rfl in_X2 tyX2 tyX2_ok nmX2 (by decide) q73 rfl (by decide +kernel) (fun _ _ _ _ _ => ⟨_, rfl, Nat.le_of_ble_eq_true rfl, rfl⟩) (s_cut [0, 5] (sBX2_copy_165 F hr hlk))))))))))) (s_aload F dX2_copy_127 (s_aload F dX2_copy_129 (s_iload_n F dX2_copy_131 rfl (s_iload F dX2_copy_132 (s_iload F dX2_copy_134 (s_callVv F dX2_copy_136 (ctX0_takeCells l) (lw_V q269 q270 q271 q2 q272) ⟨rfl, rfl⟩ (by decide +kernel) (by decide) ⟨Nat.zero_le _, Nat.zero_le _⟩ (ci := 0) rfl (fun _ _ _ _ => ⟨_, rfl⟩) (s_aload_n F dX2_copy_139 rfl (s_iload F dX2_copy_140 (s_putI F (ci := 2) dX2_copy_142 rfl in_X2 tyX2 tyX2_ok nmX2 (by decide) q73 rfl (by decide +kernel) (fun _ _ _ _ _ => ⟨_, rfl, Nat.le_of_ble_eq_true rfl, rfl⟩) (s_goto F dX2_copy_145 (by decide) (s_cut [0, 5] (sBX2_copy_165 F hr hlk))))))))))))))))) (s_bipush F dX2_copy_111 (by decide) (s_iret F dX2_copy_113 hr hlk))))))))))))
def BX2_copy_0 (Qr : Option AV → MM → Prop) (lv : LV) (st : List AV) (M : MM) : Prop := (i_iload 1 (i_call 1 SX2_isPlace (i_if (fun a => a = 0) (i_push (.inl (.int (-1))) (i_iret Qr)) (i_iload 3 (i_call 1 SX2_isPlace (i_if (fun a => a = 0) (i_push (.inl (.int (-1))) (i_iret Qr)) (i_aload 0 (i_push (.inl (.int 0)) (i_putI 0 4 (i_aload 0 (i_getR 0 1 (fun _ => 0) (i_iload 1 (i_aald (i_astore 6 (i_aload 0 (i_getR 0 1 (fun _ => 0) (i_iload 3 (i_aald (i_astore 7 (i_aload 6 (i_callV 0 4 SX0_isGone (i_if (fun a => a = 0) (i_aload 7 (i_callV 0 4 SX0_isGone (i_if (fun a => a = 0) (i_aload 6 (i_getI 4 0 (i_aload 7 (i_getI 4 0 (i_cmp (fun a b => a = b) (i_cut [0, 2, 4, 5, 6, 7] (BX2_copy_88 Qr)) (i_aload 6 (i_callV 0 4 SX0_isShelf (i_if (fun a => a = 0) (i_push (.inl (.int (-13))) (i_iret Qr)) (i_aload 7 (i_callV 0 4 SX0_isShelf (i_if (fun a => a = 0) (i_push (.inl (.int (-13))) (i_iret Qr)) (i_cut [0, 2, 4, 5, 6, 7] (BX2_copy_88 Qr))))))))))))) (i_push (.inl (.int (-11))) (i_iret Qr))))) (i_push (.inl (.int (-11))) (i_iret Qr)))))))))))))))))))))))) lv st M
set_option maxRecDepth 100000 in
set_option maxHeartbeats 4000000 in
theorem sBX2_copy_0 {p : Program} {l : Launch} {e : Env} {s : State} {m : MethodId} {args : Array Value} {below : List Frame} {meth : Method} {c : Code} {G : Nat → Nat → Nat} {cy dC : Nat → ClassId} {dI : Nat → Nat → Nat} {Qr : Option AV → MM → Prop} (F : FX p m c cX2_copy 8 RX2 s args (AW G) G cy dC dI) (hr : meth.sig.returnType = (some .int)) (hlk : meth.locks = false) : SO p l e rmX2_copy s m args below meth c 0 0 (MQ below (QI G cy dC dI Qr) args s 0 0 (AW G)) 8 (AW G) G cy dC dI 0 (BX2_copy_0 Qr) := by
  exact (s_iload_n F dX2_copy_0 rfl (s_callSi F dX2_copy_1 (ctX2_isPlace l) (lw_S q89 q90 q1 q91) ⟨rfl, rfl⟩ (by decide +kernel) (by decide) ⟨Nat.zero_le _, Nat.zero_le _⟩ (s_if_eq F dX2_copy_4 (by decide) (s_iconst F dX2_copy_14 (by decide) (s_iret F dX2_copy_15 hr hlk)) (s_iload_n F dX2_copy_7 rfl (s_callSi F dX2_copy_8 (ctX2_isPlace l) (lw_S q89 q90 q1 q91) ⟨rfl, rfl⟩ (by decide +kernel) (by decide) ⟨Nat.zero_le _, Nat.zero_le _⟩ (s_if_ne F dX2_copy_11 (by decide) (s_aload_n F dX2_copy_16 rfl (s_iconst F dX2_copy_17 (by decide) (s_putI F (ci := 2) dX2_copy_18 rfl in_X2 tyX2 tyX2_ok nmX2 (by decide) q73 rfl (by decide +kernel) (fun _ _ _ _ _ => ⟨_, rfl, Nat.le_of_ble_eq_true rfl, rfl⟩) (s_aload_n F dX2_copy_21 rfl (s_getR F (ci := 2) (f := 0) dX2_copy_22 rfl in_X2 (by decide) q69 (fun _ _ _ _ => ⟨_, rfl, rfl⟩) (s_iload_n F dX2_copy_25 rfl (s_aald F dX2_copy_26 (s_astore F dX2_copy_27 (by decide) (s_aload_n F dX2_copy_29 rfl (s_getR F (ci := 2) (f := 0) dX2_copy_30 rfl in_X2 (by decide) q69 (fun _ _ _ _ => ⟨_, rfl, rfl⟩) (s_iload_n F dX2_copy_33 rfl (s_aald F dX2_copy_34 (s_astore F dX2_copy_35 (by decide) (s_aload F dX2_copy_37 (s_callVi F dX2_copy_39 (ctX0_isGone l) (lw_V q111 q112 q113 q2 q114) ⟨rfl, rfl⟩ (by decide +kernel) (by decide) ⟨Nat.zero_le _, Nat.zero_le _⟩ (ci := 0) rfl (fun _ _ _ _ => ⟨_, rfl⟩) (s_if_ne F dX2_copy_42 (by decide) (s_bipush F dX2_copy_53 (by decide) (s_iret F dX2_copy_55 hr hlk)) (s_aload F dX2_copy_45 (s_callVi F dX2_copy_47 (ctX0_isGone l) (lw_V q111 q112 q113 q2 q114) ⟨rfl, rfl⟩ (by decide +kernel) (by decide) ⟨Nat.zero_le _, Nat.zero_le _⟩ (ci := 0) rfl (fun _ _ _ _ => ⟨_, rfl⟩) (s_if_eq F dX2_copy_50 (by decide) (s_aload F dX2_copy_56 (s_getIN F (ci := 0) (host := "MappingMoves") dX2_copy_58 rfl in_X0 (by decide) (by decide +kernel) (fun _ _ _ _ => ⟨_, rfl, rfl⟩) (s_aload F dX2_copy_61 (s_getIN F (ci := 0) (host := "MappingMoves") dX2_copy_63 rfl in_X0 (by decide) (by decide +kernel) (fun _ _ _ _ => ⟨_, rfl, rfl⟩) (s_icmp_eq F dX2_copy_66 (by decide) (s_cut [0, 2, 4, 5, 6, 7] (sBX2_copy_88 F hr hlk)) (s_aload F dX2_copy_69 (s_callVi F dX2_copy_71 (ctX0_isShelf l) (lw_V q147 q97 q98 q2 q99) ⟨rfl, rfl⟩ (by decide +kernel) (by decide) ⟨Nat.zero_le _, Nat.zero_le _⟩ (ci := 0) rfl (fun _ _ _ _ => ⟨_, rfl⟩) (s_if_eq F dX2_copy_74 (by decide) (s_bipush F dX2_copy_85 (by decide) (s_iret F dX2_copy_87 hr hlk)) (s_aload F dX2_copy_77 (s_callVi F dX2_copy_79 (ctX0_isShelf l) (lw_V q147 q97 q98 q2 q99) ⟨rfl, rfl⟩ (by decide +kernel) (by decide) ⟨Nat.zero_le _, Nat.zero_le _⟩ (ci := 0) rfl (fun _ _ _ _ => ⟨_, rfl⟩) (s_if_ne F dX2_copy_82 (by decide) (s_cut [0, 2, 4, 5, 6, 7] (sBX2_copy_88 F hr hlk)) (s_bipush F dX2_copy_85 (by decide) (s_iret F dX2_copy_87 hr hlk))))))))))))) (s_bipush F dX2_copy_53 (by decide) (s_iret F dX2_copy_55 hr hlk))))))))))))))))))))) (s_iconst F dX2_copy_14 (by decide) (s_iret F dX2_copy_15 hr hlk))))))))
set_option maxRecDepth 100000 in
set_option maxHeartbeats 4000000 in
theorem ctX2_copy (l : Launch) : CI l yX2_copy (ws_ yX2_copy cX2_copy 8 (some .int)) rmX2_copy SX2_copy := by
  refine mk_CI (by decide) ?_
  intro p e s m args below meth c G cy dC dI F hr hlk as M post hS
  unfold SX2_copy at hS
  split at hS
  · rename_i t i0 f a g b n
    obtain ⟨rfl, rfl, hX, hS⟩ := hS
    refine ⟨by simp only [lk, wd, rm1, rm2, pick, popn, catS, pushO, aLV, cond_true, cond_false, Bool.not_true, Bool.not_false, Bool.and_true, Bool.and_false, Bool.true_and, Bool.false_and, eq_self, true_and, and_true, Nat.reduceBEq, Nat.reduceAdd, reduceIte, Nat.reduceEqDiff]; decide, sBX2_copy_0 F hr hlk _ _ _ ?_⟩
    simp only [BX2_copy_0, BX2_copy_88, BX2_copy_165, i_push, i_iload, i_aload, i_astore, i_if, i_cmp, i_getI, i_getR, i_putI, i_aald, i_call, i_callV, i_iret, i_cut, lk, wd, rm1, rm2, pick, popn, catS, pushO, aLV, cond_true, cond_false, Bool.not_true, Bool.not_false, Bool.and_true, Bool.and_false, Bool.true_and, Bool.false_and, eq_self, true_and, and_true, Nat.reduceBEq, Nat.reduceAdd, reduceIte, Nat.reduceEqDiff, SX0_hasCells, SX0_isGone, SX0_isShelf, SX0_takeCells, SX2_isPlace, SX2_takeParts]
    try simp only [tCnt, aK, aN, aR, eq_self, true_and, and_true, Nat.reduceLeDiff, Nat.reduceEqDiff]
    have hP1 : ∀ p, isPl p = true → vp_in p 24 := fun p h => (isPl_in h).1
    have hP2 : ∀ p, isPl p = true → cl p < 30 := fun p h => Nat.lt_trans (isPl_in h).2 (by decide)
    have hA0 : ∀ p x y, isPl p = true → hC M (cl p) x y = true → ¬ x < 0 ∧ ¬ y < 0 ∧ cl x + cl y ≤ 40 := fun p x y h1 h2 => by
      obtain ⟨x1, y1, rfl, rfl, h⟩ := hC_in (hX.1 _ (hP2 p h1)) h2
      have hc := cnt_le (hX.1 _ (hP2 p h1))
      exact ⟨nI_pos (by omega), nI_pos (by omega), by unfold cl; rw [ncl (by omega), ncl (by omega)]; omega⟩
    simp only [s04_k, s04_hC, b2i_0, Bool.not_eq_true, Bool.not_eq_false, Decidable.not_not]
    by_cases h1 : isPl f = false
    · rw [show x_copy M f a g b n = (-1, M) from if_pos (Or.inl h1)] at hS
      simp only [h1, true_implies, Bool.false_eq_true, false_implies, and_true]
      exact hS
    by_cases h2 : isPl g = false
    · rw [show x_copy M f a g b n = (-1, M) from if_pos (Or.inr h2)] at hS
      simp only [Bool.not_eq_false] at h1
      simp only [h1, h2, true_implies, Bool.true_eq_false, Bool.false_eq_true, false_implies, and_true, true_and]
      exact hS
    simp only [Bool.not_eq_false] at h1 h2
    have hv1 := hP1 f h1
    have hv2 := hP1 g h2
    have hl1 := hP2 f h1
    have hl2 := hP2 g h2
    have hx : x_copy M f a g b n = if M.1 4 (cl f) 1 = -1 ∨ M.1 4 (cl g) 1 = -1 then (-11, sI M 0 0 4 0) else if ¬ M.1 4 (cl f) 0 = M.1 4 (cl g) 0 ∧ (M.1 4 (cl f) 0 < 7 ∨ M.1 4 (cl g) 0 < 7) then (-13, sI M 0 0 4 0) else if hC M (cl f) a n = false ∨ hC M (cl g) b n = false then (-12, sI M 0 0 4 0) else if M.1 4 (cl f) 0 = M.1 4 (cl g) 0 then (n, sI (c_take (sI M 0 0 4 0) (cl g) (cl f) (cl a) (cl b) (cl n)) 0 0 4 n) else (if nI (tpN M (cl f) (cl a) (cl g) (cl n)) < n then -14 else n, sI (x_tp (sI M 0 0 4 0) (cl f) (cl a) (cl g) (cl b) (tpN M (cl f) (cl a) (cl g) (cl n))) 0 0 4 (nI (tpN M (cl f) (cl a) (cl g) (cl n)))) := if_neg (by rw [h1, h2]; simp)
    rw [hx] at hS
    refine ⟨fun h => absurd h (by rw [h1]; simp), fun _ => ⟨fun h => absurd h (by rw [h2]; simp), fun _ => ?_⟩⟩
    (repeat (first | refine And.intro hv1 ?_ | refine And.intro hv2 ?_ | refine And.intro hl1 ?_ | refine And.intro hl2 ?_ | refine And.intro (by decide) ?_))
    refine ⟨fun c1 => ?_, fun c1 => ?_⟩
    · (repeat (first | refine And.intro hv1 ?_ | refine And.intro hv2 ?_ | refine And.intro hl1 ?_ | refine And.intro hl2 ?_ | refine And.intro (by decide) ?_))
      refine ⟨fun c2 => ?_, fun c2 => ?_⟩
      · (repeat (first | refine And.intro hv1 ?_ | refine And.intro hv2 ?_ | refine And.intro hl1 ?_ | refine And.intro hl2 ?_ | refine And.intro (by decide) ?_))
        refine ⟨fun c3 => ?_, fun c3 => ?_⟩
        · have h3n : ¬ (¬ M.1 4 (cl f) 0 = M.1 4 (cl g) 0 ∧ (M.1 4 (cl f) 0 < 7 ∨ M.1 4 (cl g) 0 < 7)) := fun q => q.1 c3
          rw [if_neg (not_or.mpr ⟨c1, c2⟩), if_neg h3n] at hS
          (repeat (first | refine And.intro hv1 ?_ | refine And.intro hv2 ?_ | refine And.intro hl1 ?_ | refine And.intro hl2 ?_ | refine And.intro (by decide) ?_))
          refine ⟨fun c6 => ?_, fun c6 => ?_⟩
          · rw [if_pos (Or.inl c6)] at hS
            exact hS
          · (repeat (first | refine And.intro hv1 ?_ | refine And.intro hv2 ?_ | refine And.intro hl1 ?_ | refine And.intro hl2 ?_ | refine And.intro (by decide) ?_))
            refine ⟨fun c7 => ?_, fun c7 => ?_⟩
            · rw [if_pos (Or.inr c7)] at hS
              exact hS
            · rw [if_neg (show ¬ (hC M (cl f) a n = false ∨ hC M (cl g) b n = false) from fun q => q.elim (fun q => Bool.noConfusion (q.symm.trans c6)) (fun q => Bool.noConfusion (q.symm.trans c7)))] at hS
              obtain ⟨q1, q2, q3⟩ := hA0 f a n h1 c6
              obtain ⟨q4, q5, q6⟩ := hA0 g b n h2 c7
              (repeat (first | refine And.intro hv1 ?_ | refine And.intro hv2 ?_ | refine And.intro hl1 ?_ | refine And.intro hl2 ?_ | refine And.intro (by decide) ?_))
              refine ⟨fun c8 => ?_, fun c8 => ?_⟩
              · rw [if_pos c8] at hS
                (repeat (first | refine And.intro hl1 ?_ | refine And.intro hl2 ?_ | refine And.intro q1 ?_ | refine And.intro q4 ?_ | refine And.intro q2 ?_ | refine And.intro q3 ?_ | refine And.intro q6 ?_ | refine And.intro (by decide) ?_))
                simp only [s4_at]
                exact ⟨fun c9 => absurd c9 Int32.lt_irrefl, fun _ => hS⟩
              · rw [if_neg c8] at hS
                have hne : ¬ f.toNatClampNeg = g.toNatClampNeg := fun e => c8 (by rw [e])
                have hX' : ∃ n, n ≤ 40 ∧ (sI M 0 0 4 0).1 0 0 3 = nI n := by rw [s04_3]; exact hX.2.2
                (repeat (first | refine And.intro hl1 ?_ | refine And.intro hl2 ?_ | refine And.intro hne ?_ | refine And.intro hX' ?_ | refine And.intro (by decide) ?_))
                refine ⟨cl a, cl b, cl n, nI_cl q1, nI_cl q4, nI_cl q2, q3, q6, ?_⟩
                (repeat (first | refine And.intro hv1 ?_ | refine And.intro hv2 ?_ | refine And.intro hl1 ?_ | refine And.intro hl2 ?_ | refine And.intro (by decide) ?_))
                simp only [s04_tpN, s4_at]
                refine ⟨fun c9 => ?_, fun c9 => ?_⟩
                · rw [if_pos c9] at hS
                  exact hS
                · rw [if_neg c9] at hS
                  exact hS
        · (repeat (first | refine And.intro hv1 ?_ | refine And.intro hv2 ?_ | refine And.intro hl1 ?_ | refine And.intro hl2 ?_ | refine And.intro (by decide) ?_))
          refine ⟨fun c4 => ?_, fun c4 => ?_⟩
          · rw [if_neg (not_or.mpr ⟨c1, c2⟩), if_pos ⟨c3, Or.inl c4⟩] at hS
            exact hS
          · (repeat (first | refine And.intro hv1 ?_ | refine And.intro hv2 ?_ | refine And.intro hl1 ?_ | refine And.intro hl2 ?_ | refine And.intro (by decide) ?_))
            refine ⟨fun c5 => ?_, fun c5 => ?_⟩
            · rw [if_neg (not_or.mpr ⟨c1, c2⟩), if_pos ⟨c3, Or.inr c5⟩] at hS
              exact hS
            · have h3n : ¬ (¬ M.1 4 (cl f) 0 = M.1 4 (cl g) 0 ∧ (M.1 4 (cl f) 0 < 7 ∨ M.1 4 (cl g) 0 < 7)) := fun q => q.2.elim c4 c5
              rw [if_neg (not_or.mpr ⟨c1, c2⟩), if_neg h3n] at hS
              (repeat (first | refine And.intro hv1 ?_ | refine And.intro hv2 ?_ | refine And.intro hl1 ?_ | refine And.intro hl2 ?_ | refine And.intro (by decide) ?_))
              refine ⟨fun c6 => ?_, fun c6 => ?_⟩
              · rw [if_pos (Or.inl c6)] at hS
                exact hS
              · (repeat (first | refine And.intro hv1 ?_ | refine And.intro hv2 ?_ | refine And.intro hl1 ?_ | refine And.intro hl2 ?_ | refine And.intro (by decide) ?_))
                refine ⟨fun c7 => ?_, fun c7 => ?_⟩
                · rw [if_pos (Or.inr c7)] at hS
                  exact hS
                · rw [if_neg (show ¬ (hC M (cl f) a n = false ∨ hC M (cl g) b n = false) from fun q => q.elim (fun q => Bool.noConfusion (q.symm.trans c6)) (fun q => Bool.noConfusion (q.symm.trans c7)))] at hS
                  obtain ⟨q1, q2, q3⟩ := hA0 f a n h1 c6
                  obtain ⟨q4, q5, q6⟩ := hA0 g b n h2 c7
                  (repeat (first | refine And.intro hv1 ?_ | refine And.intro hv2 ?_ | refine And.intro hl1 ?_ | refine And.intro hl2 ?_ | refine And.intro (by decide) ?_))
                  refine ⟨fun c8 => ?_, fun c8 => ?_⟩
                  · rw [if_pos c8] at hS
                    (repeat (first | refine And.intro hl1 ?_ | refine And.intro hl2 ?_ | refine And.intro q1 ?_ | refine And.intro q4 ?_ | refine And.intro q2 ?_ | refine And.intro q3 ?_ | refine And.intro q6 ?_ | refine And.intro (by decide) ?_))
                    simp only [s4_at]
                    exact ⟨fun c9 => absurd c9 Int32.lt_irrefl, fun _ => hS⟩
                  · rw [if_neg c8] at hS
                    have hne : ¬ f.toNatClampNeg = g.toNatClampNeg := fun e => c8 (by rw [e])
                    have hX' : ∃ n, n ≤ 40 ∧ (sI M 0 0 4 0).1 0 0 3 = nI n := by rw [s04_3]; exact hX.2.2
                    (repeat (first | refine And.intro hl1 ?_ | refine And.intro hl2 ?_ | refine And.intro hne ?_ | refine And.intro hX' ?_ | refine And.intro (by decide) ?_))
                    refine ⟨cl a, cl b, cl n, nI_cl q1, nI_cl q4, nI_cl q2, q3, q6, ?_⟩
                    (repeat (first | refine And.intro hv1 ?_ | refine And.intro hv2 ?_ | refine And.intro hl1 ?_ | refine And.intro hl2 ?_ | refine And.intro (by decide) ?_))
                    simp only [s04_tpN, s4_at]
                    refine ⟨fun c9 => ?_, fun c9 => ?_⟩
                    · rw [if_pos c9] at hS
                      exact hS
                    · rw [if_neg c9] at hS
                      exact hS
      · rw [if_pos (Or.inr c2)] at hS
        exact hS
    · rw [if_pos (Or.inl c1)] at hS
      exact hS
  · exact hS.elim
