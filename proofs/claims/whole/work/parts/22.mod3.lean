theorem sI_sI (M : MM) (t i k : Nat) (v w : Int32) : sI (sI M t i k v) t i k w = sI M t i k w := by
  refine MM_ext (fun a b c => ?_) (fun _ _ _ => rfl) (fun _ _ _ => rfl)
  simp only [sI]
  split
  · rfl
  · rfl
theorem b2i_ge {k : Int32} (h : b2i (¬ k < 7) = 1) : ¬ k < 7 := by
  intro q
  rw [b2i_f (fun z => z q)] at h
  exact absurd h (by decide)
theorem mWay1 {N : MM} {p : Nat} (h : mWay N p 1 = 0) : ¬ N.1 9 0 p < 7 := by
  unfold mWay at h
  split at h
  · exact absurd h (by decide)
  · split at h
    · exact absurd h (by decide)
    · rename_i h2
      exact b2i_ge (Decidable.not_not.mp h2)
theorem wt0 {N : MM} {p i : Int32} (hM : MOK N) (h : m_wt N p i = 0) : isPl p = true ∧ mHas N (cl p) i = true ∧ ¬ lg_cmp (N.2.1 12 0 (40 * cl p + cl i)) 0 < 0 ∧ ¬ N.1 9 0 (cl p) < 7 ∧ vp_in (N.2.1 12 0 (40 * cl p + cl i)).toInt32 40 ∧ vp_in p 24 ∧ vp_in (40 * p + i) 960 ∧ (40 * p + i).toNatClampNeg = 40 * cl p + cl i := by
  unfold m_wt at h
  split at h
  · exact absurd h (by decide)
  · rename_i h1
    have h1 : isPl p = true := by simpa using h1
    split at h
    · rename_i h2
      exact absurd h h2
    · rename_i h2
      have h2 := Decidable.not_not.mp h2
      split at h
      · exact absurd h (by decide)
      · rename_i h3
        have h3 : mHas N (cl p) i = true := by simpa using h3
        split at h
        · exact absurd h (by decide)
        · rename_i h4
          obtain ⟨q1, q2, q3⟩ := mHas_in hM (isPl_in h1).2 h3
          have h5 := mWay1 h2
          have hx := ix_v h1 q1 q3
          exact ⟨h1, h3, h4, h5, pOK_in (hM.2.2.2 _ _ (isPl_in h1).2 q2 h5) h4, (isPl_in h1).1, hx.1, hx.2⟩

def SX3_weigh : SP := fun as M post => match as with
  | [.inr (t, i0), .inl (.int p0), .inl (.int i)] => t = 8 ∧ i0 = 0 ∧ MOK (z0 M) ∧ post (some (.inl (.int (m_weigh (z0 M) p0 i)))) (z0 M)
  | _ => False
abbrev rmX3_weigh : Room := ({ frames := 3, cells := 0, slots := 0, locals := 180 } : Room)
theorem lsw_X3_weigh_39 (x : Int32) : ((39 : Nat) : Int) + Op.lookupswitch.offset (#[(0, 25), (1, 33)] : Array (Int × Int)).toList 51 x.toInt = (((if x = 0 then 64 else if x = 1 then 72 else 90) : Nat) : Int) := by
  by_cases e0 : x = 0
  · subst e0; decide
  by_cases e1 : x = 1
  · subst e1; decide
  show ((39 : Nat) : Int) + Op.lookupswitch.offset [(0, 25), (1, 33)] 51 x.toInt = _
  rw [lv_osw e0 (by decide), lv_osw e1 (by decide), if_neg e0, if_neg e1]
  rfl
def BX3_weigh_0 (Qr : Option AV → MM → Prop) (lv : LV) (st : List AV) (M : MM) : Prop := (i_aload 0 (i_push (.inl (.int 0)) (i_putI 8 0 (i_aload 0 (i_iload 1 (i_iload 2 (i_callV 2 8 SX3_wayTo (i_istore 3 (i_iload 3 (i_if (fun a => a = 0) (i_aload 0 (i_getR 8 12 (fun _ => 0) (i_push (.inl (.int 40)) (i_iload 1 (i_II (fun a b => a * b) (i_iload 2 (i_II (fun a b => a + b) (i_lald (i_L (fun a => .inl (.int a.toInt32)) (i_istore 4 (i_aload 0 (i_getR 8 19 (fun _ => 0) (i_iload 4 (i_iald 0 (i_sw [(0, (i_aload 0 (i_getR 8 20 (fun _ => 0) (i_iload 4 (i_iald 0 (i_iret Qr)))))), (1, (i_aload 0 (i_getR 8 20 (fun _ => 0) (i_iload 4 (i_iald 0 (i_push (.inl (.int 3)) (i_aload 0 (i_getR 8 21 (fun _ => 0) (i_iload 4 (i_iald 0 (i_II (fun a b => a * b) (i_II (fun a b => a + b) (i_iret Qr)))))))))))))] (i_aload 0 (i_getR 8 20 (fun _ => 0) (i_iload 4 (i_iald 0 (i_push (.inl (.int 2)) (i_div (i_aload 0 (i_getR 8 21 (fun _ => 0) (i_iload 4 (i_iald 0 (i_push (.inl (.int 1)) (i_II (fun a b => a + b) (i_push (.inl (.int 2)) (i_div (i_II (fun a b => a + b) (i_iret Qr))))))))))))))))))))))))))))))) (i_iload 3 (i_iret Qr)))))))))))) lv st M
set_option maxRecDepth 100000 in
set_option maxHeartbeats 4000000 in
theorem sBX3_weigh_0 {p : Program} {l : Launch} {e : Env} {s : State} {m : MethodId} {args : Array Value} {below : List Frame} {meth : Method} {c : Code} {G : Nat → Nat → Nat} {cy dC : Nat → ClassId} {dI : Nat → Nat → Nat} {Qr : Option AV → MM → Prop} (F : FX p m c cX3_weigh 5 RX3 s args (AW G) G cy dC dI) (hr : meth.sig.returnType = (some .int)) (hlk : meth.locks = false) : SO p l e rmX3_weigh s m args below meth c 0 0 (MQ below (QI G cy dC dI Qr) args s 0 0 (AW G)) 5 (AW G) G cy dC dI 0 (BX3_weigh_0 Qr) := by
  exact (s_aload_n F dX3_weigh_0 rfl (s_iconst F dX3_weigh_1 (by decide) (s_putI F (ci := 3) dX3_weigh_2 rfl in_X3 tyX3 tyX3_ok nmX3 (by decide) q467 rfl (by decide +kernel) (fun _ _ _ _ _ => ⟨_, rfl, Nat.le_of_ble_eq_true rfl, rfl⟩) (s_aload_n F dX3_weigh_5 rfl (s_iload_n F dX3_weigh_6 rfl (s_iload_n F dX3_weigh_7 rfl (s_callVi F dX3_weigh_8 (ctX3_wayTo l) (lw_V q621 q623 qs17 q4 q624) ⟨rfl, rfl⟩ (by decide +kernel) (by decide) ⟨Nat.zero_le _, Nat.zero_le _⟩ (ci := 3) rfl (fun _ _ _ _ => ⟨_, rfl⟩) (s_istore_n F dX3_weigh_11 rfl (by decide) (s_iload_n F dX3_weigh_12 rfl (s_if_eq F dX3_weigh_13 (by decide) (s_aload_n F dX3_weigh_18 rfl (s_getR F (ci := 3) (f := 4) dX3_weigh_19 rfl in_X3 (by decide) q471 (fun _ _ _ _ => ⟨_, rfl, rfl⟩) (s_bipush F dX3_weigh_22 (by decide) (s_iload_n F dX3_weigh_24 rfl (s_imul F dX3_weigh_25 (s_iload_n F dX3_weigh_26 rfl (s_iadd F dX3_weigh_27 (s_lald F dX3_weigh_28 (s_l2i F dX3_weigh_29 (s_istore F dX3_weigh_30 (by decide) (s_aload_n F dX3_weigh_32 rfl (s_getR F (ci := 3) (f := 12) dX3_weigh_33 rfl in_X3 (by decide) q479 (fun _ _ _ _ => ⟨_, rfl, rfl⟩) (s_iload F dX3_weigh_36 (s_iald F dX3_weigh_38 (s_lsw F [(0, (i_aload 0 (i_getR 8 20 (fun _ => 0) (i_iload 4 (i_iald 0 (i_iret Qr)))))), (1, (i_aload 0 (i_getR 8 20 (fun _ => 0) (i_iload 4 (i_iald 0 (i_push (.inl (.int 3)) (i_aload 0 (i_getR 8 21 (fun _ => 0) (i_iload 4 (i_iald 0 (i_II (fun a b => a * b) (i_II (fun a b => a + b) (i_iret Qr)))))))))))))] (fun x => if x = 0 then 64 else if x = 1 then 72 else 90) dX3_weigh_39 (by decide) (lsw_X3_weigh_39) (List.forall_mem_cons.mpr ⟨(show SO _ _ _ _ _ _ _ _ _ _ _ _ _ _ _ _ _ _ _ 64 _ from (s_aload_n F dX3_weigh_64 rfl (s_getR F (ci := 3) (f := 13) dX3_weigh_65 rfl in_X3 (by decide) q480 (fun _ _ _ _ => ⟨_, rfl, rfl⟩) (s_iload F dX3_weigh_68 (s_iald F dX3_weigh_70 (s_iret F dX3_weigh_71 hr hlk)))))), (List.forall_mem_cons.mpr ⟨(show SO _ _ _ _ _ _ _ _ _ _ _ _ _ _ _ _ _ _ _ 72 _ from (s_aload_n F dX3_weigh_72 rfl (s_getR F (ci := 3) (f := 13) dX3_weigh_73 rfl in_X3 (by decide) q480 (fun _ _ _ _ => ⟨_, rfl, rfl⟩) (s_iload F dX3_weigh_76 (s_iald F dX3_weigh_78 (s_iconst F dX3_weigh_79 (by decide) (s_aload_n F dX3_weigh_80 rfl (s_getR F (ci := 3) (f := 14) dX3_weigh_81 rfl in_X3 (by decide) q481 (fun _ _ _ _ => ⟨_, rfl, rfl⟩) (s_iload F dX3_weigh_84 (s_iald F dX3_weigh_86 (s_imul F dX3_weigh_87 (s_iadd F dX3_weigh_88 (s_iret F dX3_weigh_89 hr hlk))))))))))))), fun _ hq => nomatch hq⟩)⟩) (fun x hx => by have hx2 := hx; simp only [List.forall_mem_cons] at hx2; obtain ⟨e0, e1, -⟩ := hx2; have hgo : (if x = 0 then 64 else if x = 1 then 72 else 90) = 90 := (by simp only [if_neg e0, if_neg e1]); show SO _ _ _ _ _ _ _ _ _ _ _ _ _ _ _ _ _ _ _ (if x = 0 then 64 else if x = 1 then 72 else 90) _; rw [hgo]; exact (s_aload_n F dX3_weigh_90 rfl (s_getR F (ci := 3) (f := 13) dX3_weigh_91 rfl in_X3 (by decide) q480 (fun _ _ _ _ => ⟨_, rfl, rfl⟩) (s_iload F dX3_weigh_94 (s_iald F dX3_weigh_96 (s_iconst F dX3_weigh_97 (by decide) (s_idiv F dX3_weigh_98 (s_aload_n F dX3_weigh_99 rfl (s_getR F (ci := 3) (f := 14) dX3_weigh_100 rfl in_X3 (by decide) q481 (fun _ _ _ _ => ⟨_, rfl, rfl⟩) (s_iload F dX3_weigh_103 (s_iald F dX3_weigh_105 (s_iconst F dX3_weigh_106 (by decide) (s_iadd F dX3_weigh_107 (s_iconst F dX3_weigh_108 (by decide) (s_idiv F dX3_weigh_109 (s_iadd F dX3_weigh_110 (s_iret F dX3_weigh_111 hr hlk)))))))))))))))))))))))))))))))) (s_iload_n F dX3_weigh_16 rfl (s_iret F dX3_weigh_17 hr hlk))))))))))))
set_option maxRecDepth 100000 in
set_option maxHeartbeats 4000000 in
theorem ctX3_weigh (l : Launch) : CI l yX3_weigh (ws_ yX3_weigh cX3_weigh 5 (some .int)) rmX3_weigh SX3_weigh := by
  refine mk_CI (by decide) ?_
  intro p e s m args below meth c G cy dC dI F hr hlk as M post hS
  unfold SX3_weigh at hS
  split at hS
  · rename_i t i0 p0 i
    obtain ⟨rfl, rfl, hM, hS⟩ := hS
    refine ⟨by simp only [lk, wd, rm1, rm2, pick, popn, catS, pushO, aLV, cond_true, cond_false, Bool.not_true, Bool.not_false, Bool.and_true, Bool.and_false, Bool.true_and, Bool.false_and, eq_self, true_and, and_true, Nat.reduceBEq, Nat.reduceAdd, reduceIte, Nat.reduceEqDiff]; decide, sBX3_weigh_0 F hr hlk _ _ _ ?_⟩
    simp only [BX3_weigh_0, i_push, i_iload, i_aload, i_istore, i_II, i_div, i_L, i_if, i_sw, i_getR, i_putI, i_iald, i_lald, i_callV, i_iret, i_swc, lk, wd, rm1, rm2, pick, popn, catS, pushO, aLV, cond_true, cond_false, Bool.not_true, Bool.not_false, Bool.and_true, Bool.and_false, Bool.true_and, Bool.false_and, eq_self, true_and, and_true, Nat.reduceBEq, Nat.reduceAdd, reduceIte, Nat.reduceEqDiff, SX3_wayTo]
    try simp only [tCnt, aK, aN, aR, eq_self, true_and, and_true, Nat.reduceLeDiff, Nat.reduceEqDiff]
    (try simp only [b2i_0, Bool.not_eq_true, Bool.not_eq_false]); (try simp only [show sI M 8 0 0 0 = z0 M from rfl]); generalize hN : z0 M = N at hS hM ⊢
    (try simp only [nar0, nar1])
    by_cases hw : m_wt N p0 i = 0
    · obtain ⟨w1, w2, w3, w4, w5, w6, w7, w8⟩ := wt0 hM hw
      simp only [w8]
      (try simp only [b2i_0, Bool.not_eq_true, Bool.not_eq_false])
      (repeat' (first | with_reducible assumption | exact b2i_1 _ | apply And.intro | intro _)) <;> (first | with_reducible assumption | (exfalso; with_reducible contradiction) | (simpa [m_weigh, *] using hS) | (simp_all [m_weigh]; done) | decide)
    · (try simp only [b2i_0, Bool.not_eq_true, Bool.not_eq_false])
      (repeat' (first | with_reducible assumption | exact b2i_1 _ | apply And.intro | intro _)) <;> (first | with_reducible assumption | (exfalso; with_reducible contradiction) | (simpa [m_weigh, *] using hS) | (simp_all [m_weigh]; done) | decide)
  · exact hS.elim
def SX3_rigid : SP := fun as M post => match as with
  | [.inr (t, i0), .inl (.int p0), .inl (.int i)] => t = 8 ∧ i0 = 0 ∧ MOK (z0 M) ∧ post (some (.inl (.int (m_rigid (z0 M) p0 i)))) (z0 M)
  | _ => False
abbrev rmX3_rigid : Room := ({ frames := 3, cells := 0, slots := 0, locals := 180 } : Room)
def BX3_rigid_0 (Qr : Option AV → MM → Prop) (lv : LV) (st : List AV) (M : MM) : Prop := (i_aload 0 (i_push (.inl (.int 0)) (i_putI 8 0 (i_aload 0 (i_iload 1 (i_iload 2 (i_callV 2 8 SX3_wayTo (i_istore 3 (i_iload 3 (i_if (fun a => a = 0) (i_aload 0 (i_getR 8 12 (fun _ => 0) (i_push (.inl (.int 40)) (i_iload 1 (i_II (fun a b => a * b) (i_iload 2 (i_II (fun a b => a + b) (i_lald (i_L (fun a => .inl (.int a.toInt32)) (i_istore 4 (i_aload 0 (i_getR 8 19 (fun _ => 0) (i_iload 4 (i_iald 0 (i_push (.inl (.int 1)) (i_cmp (fun a b => a = b) (i_aload 0 (i_getR 8 21 (fun _ => 0) (i_iload 4 (i_iald 0 (i_iret Qr))))) (i_push (.inl (.int (-15))) (i_iret Qr)))))))))))))))))) (i_iload 3 (i_iret Qr)))))))))))) lv st M
set_option maxRecDepth 100000 in
set_option maxHeartbeats 4000000 in
theorem sBX3_rigid_0 {p : Program} {l : Launch} {e : Env} {s : State} {m : MethodId} {args : Array Value} {below : List Frame} {meth : Method} {c : Code} {G : Nat → Nat → Nat} {cy dC : Nat → ClassId} {dI : Nat → Nat → Nat} {Qr : Option AV → MM → Prop} (F : FX p m c cX3_rigid 5 RX3 s args (AW G) G cy dC dI) (hr : meth.sig.returnType = (some .int)) (hlk : meth.locks = false) : SO p l e rmX3_rigid s m args below meth c 0 0 (MQ below (QI G cy dC dI Qr) args s 0 0 (AW G)) 5 (AW G) G cy dC dI 0 (BX3_rigid_0 Qr) := by
  exact (s_aload_n F dX3_rigid_0 rfl (s_iconst F dX3_rigid_1 (by decide) (s_putI F (ci := 3) dX3_rigid_2 rfl in_X3 tyX3 tyX3_ok nmX3 (by decide) q467 rfl (by decide +kernel) (fun _ _ _ _ _ => ⟨_, rfl, Nat.le_of_ble_eq_true rfl, rfl⟩) (s_aload_n F dX3_rigid_5 rfl (s_iload_n F dX3_rigid_6 rfl (s_iload_n F dX3_rigid_7 rfl (s_callVi F dX3_rigid_8 (ctX3_wayTo l) (lw_V q621 q623 qs17 q4 q624) ⟨rfl, rfl⟩ (by decide +kernel) (by decide) ⟨Nat.zero_le _, Nat.zero_le _⟩ (ci := 3) rfl (fun _ _ _ _ => ⟨_, rfl⟩) (s_istore_n F dX3_rigid_11 rfl (by decide) (s_iload_n F dX3_rigid_12 rfl (s_if_eq F dX3_rigid_13 (by decide) (s_aload_n F dX3_rigid_18 rfl (s_getR F (ci := 3) (f := 4) dX3_rigid_19 rfl in_X3 (by decide) q471 (fun _ _ _ _ => ⟨_, rfl, rfl⟩) (s_bipush F dX3_rigid_22 (by decide) (s_iload_n F dX3_rigid_24 rfl (s_imul F dX3_rigid_25 (s_iload_n F dX3_rigid_26 rfl (s_iadd F dX3_rigid_27 (s_lald F dX3_rigid_28 (s_l2i F dX3_rigid_29 (s_istore F dX3_rigid_30 (by decide) (s_aload_n F dX3_rigid_32 rfl (s_getR F (ci := 3) (f := 12) dX3_rigid_33 rfl in_X3 (by decide) q479 (fun _ _ _ _ => ⟨_, rfl, rfl⟩) (s_iload F dX3_rigid_36 (s_iald F dX3_rigid_38 (s_iconst F dX3_rigid_39 (by decide) (s_icmp_eq F dX3_rigid_40 (by decide) (s_aload_n F dX3_rigid_48 rfl (s_getR F (ci := 3) (f := 14) dX3_rigid_49 rfl in_X3 (by decide) q481 (fun _ _ _ _ => ⟨_, rfl, rfl⟩) (s_iload F dX3_rigid_52 (s_iald F dX3_rigid_54 (s_iret F dX3_rigid_55 hr hlk))))) (s_bipush F dX3_rigid_43 (by decide) (s_goto F dX3_rigid_45 (by decide) (s_iret F dX3_rigid_55 hr hlk))))))))))))))))))) (s_iload_n F dX3_rigid_16 rfl (s_iret F dX3_rigid_17 hr hlk))))))))))))
set_option maxRecDepth 100000 in
set_option maxHeartbeats 4000000 in
theorem ctX3_rigid (l : Launch) : CI l yX3_rigid (ws_ yX3_rigid cX3_rigid 5 (some .int)) rmX3_rigid SX3_rigid := by
  refine mk_CI (by decide) ?_
  intro p e s m args below meth c G cy dC dI F hr hlk as M post hS
  unfold SX3_rigid at hS
  split at hS
  · rename_i t i0 p0 i
    obtain ⟨rfl, rfl, hM, hS⟩ := hS
    refine ⟨by simp only [lk, wd, rm1, rm2, pick, popn, catS, pushO, aLV, cond_true, cond_false, Bool.not_true, Bool.not_false, Bool.and_true, Bool.and_false, Bool.true_and, Bool.false_and, eq_self, true_and, and_true, Nat.reduceBEq, Nat.reduceAdd, reduceIte, Nat.reduceEqDiff]; decide, sBX3_rigid_0 F hr hlk _ _ _ ?_⟩
    simp only [BX3_rigid_0, i_push, i_iload, i_aload, i_istore, i_II, i_L, i_if, i_cmp, i_getR, i_putI, i_iald, i_lald, i_callV, i_iret, lk, wd, rm1, rm2, pick, popn, catS, pushO, aLV, cond_true, cond_false, Bool.not_true, Bool.not_false, Bool.and_true, Bool.and_false, Bool.true_and, Bool.false_and, eq_self, true_and, and_true, Nat.reduceBEq, Nat.reduceAdd, reduceIte, Nat.reduceEqDiff, SX3_wayTo]
    try simp only [tCnt, aK, aN, aR, eq_self, true_and, and_true, Nat.reduceLeDiff, Nat.reduceEqDiff]
    (try simp only [b2i_0, Bool.not_eq_true, Bool.not_eq_false]); (try simp only [show sI M 8 0 0 0 = z0 M from rfl]); generalize hN : z0 M = N at hS hM ⊢
    (try simp only [nar0, nar1])
    by_cases hw : m_wt N p0 i = 0
    · obtain ⟨w1, w2, w3, w4, w5, w6, w7, w8⟩ := wt0 hM hw
      simp only [w8]
      (try simp only [b2i_0, Bool.not_eq_true, Bool.not_eq_false])
      (repeat' (first | with_reducible assumption | exact b2i_1 _ | apply And.intro | intro _)) <;> (first | with_reducible assumption | (exfalso; with_reducible contradiction) | (simpa [m_rigid, *] using hS) | (simp_all [m_rigid]; done) | decide)
    · (try simp only [b2i_0, Bool.not_eq_true, Bool.not_eq_false])
      (repeat' (first | with_reducible assumption | exact b2i_1 _ | apply And.intro | intro _)) <;> (first | with_reducible assumption | (exfalso; with_reducible contradiction) | (simpa [m_rigid, *] using hS) | (simp_all [m_rigid]; done) | decide)
  · exact hS.elim
def SX3_raise : SP := fun as M post => match as with
  | [.inr (t, i0), .inl (.int p0), .inl (.int i)] => t = 8 ∧ i0 = 0 ∧ MOK (z0 M) ∧ post (some (.inl (.int (m_raise (z0 M) p0 i)))) (z0 M)
  | _ => False
abbrev rmX3_raise : Room := ({ frames := 3, cells := 0, slots := 0, locals := 180 } : Room)
def BX3_raise_0 (Qr : Option AV → MM → Prop) (lv : LV) (st : List AV) (M : MM) : Prop := (i_aload 0 (i_push (.inl (.int 0)) (i_putI 8 0 (i_aload 0 (i_iload 1 (i_iload 2 (i_callV 2 8 SX3_wayTo (i_istore 3 (i_iload 3 (i_if (fun a => a = 0) (i_aload 0 (i_getR 8 22 (fun _ => 0) (i_aload 0 (i_getR 8 12 (fun _ => 0) (i_push (.inl (.int 40)) (i_iload 1 (i_II (fun a b => a * b) (i_iload 2 (i_II (fun a b => a + b) (i_lald (i_L (fun a => .inl (.int a.toInt32)) (i_iald 0 (i_istore 4 (i_iload 4 (i_if (fun a => a < 0) (i_push (.inl (.int (-11))) (i_iret Qr)) (i_push (.inl (.int (-30))) (i_iload 4 (i_II (fun a b => a - b) (i_iret Qr))))))))))))))))))) (i_iload 3 (i_iret Qr)))))))))))) lv st M
set_option maxRecDepth 100000 in
set_option maxHeartbeats 4000000 in
theorem sBX3_raise_0 {p : Program} {l : Launch} {e : Env} {s : State} {m : MethodId} {args : Array Value} {below : List Frame} {meth : Method} {c : Code} {G : Nat → Nat → Nat} {cy dC : Nat → ClassId} {dI : Nat → Nat → Nat} {Qr : Option AV → MM → Prop} (F : FX p m c cX3_raise 5 RX3 s args (AW G) G cy dC dI) (hr : meth.sig.returnType = (some .int)) (hlk : meth.locks = false) : SO p l e rmX3_raise s m args below meth c 0 0 (MQ below (QI G cy dC dI Qr) args s 0 0 (AW G)) 5 (AW G) G cy dC dI 0 (BX3_raise_0 Qr) := by
  exact (s_aload_n F dX3_raise_0 rfl (s_iconst F dX3_raise_1 (by decide) (s_putI F (ci := 3) dX3_raise_2 rfl in_X3 tyX3 tyX3_ok nmX3 (by decide) q467 rfl (by decide +kernel) (fun _ _ _ _ _ => ⟨_, rfl, Nat.le_of_ble_eq_true rfl, rfl⟩) (s_aload_n F dX3_raise_5 rfl (s_iload_n F dX3_raise_6 rfl (s_iload_n F dX3_raise_7 rfl (s_callVi F dX3_raise_8 (ctX3_wayTo l) (lw_V q621 q623 qs17 q4 q624) ⟨rfl, rfl⟩ (by decide +kernel) (by decide) ⟨Nat.zero_le _, Nat.zero_le _⟩ (ci := 3) rfl (fun _ _ _ _ => ⟨_, rfl⟩) (s_istore_n F dX3_raise_11 rfl (by decide) (s_iload_n F dX3_raise_12 rfl (s_if_eq F dX3_raise_13 (by decide) (s_aload_n F dX3_raise_18 rfl (s_getR F (ci := 3) (f := 15) dX3_raise_19 rfl in_X3 (by decide) q482 (fun _ _ _ _ => ⟨_, rfl, rfl⟩) (s_aload_n F dX3_raise_22 rfl (s_getR F (ci := 3) (f := 4) dX3_raise_23 rfl in_X3 (by decide) q471 (fun _ _ _ _ => ⟨_, rfl, rfl⟩) (s_bipush F dX3_raise_26 (by decide) (s_iload_n F dX3_raise_28 rfl (s_imul F dX3_raise_29 (s_iload_n F dX3_raise_30 rfl (s_iadd F dX3_raise_31 (s_lald F dX3_raise_32 (s_l2i F dX3_raise_33 (s_iald F dX3_raise_34 (s_istore F dX3_raise_35 (by decide) (s_iload F dX3_raise_37 (s_if_ge F dX3_raise_39 (by decide) (s_bipush F dX3_raise_47 (by decide) (s_iload F dX3_raise_49 (s_isub F dX3_raise_51 (s_iret F dX3_raise_52 hr hlk)))) (s_bipush F dX3_raise_42 (by decide) (s_goto F dX3_raise_44 (by decide) (s_iret F dX3_raise_52 hr hlk)))))))))))))))))) (s_iload_n F dX3_raise_16 rfl (s_iret F dX3_raise_17 hr hlk))))))))))))
set_option maxRecDepth 100000 in
set_option maxHeartbeats 4000000 in
theorem ctX3_raise (l : Launch) : CI l yX3_raise (ws_ yX3_raise cX3_raise 5 (some .int)) rmX3_raise SX3_raise := by
  refine mk_CI (by decide) ?_
  intro p e s m args below meth c G cy dC dI F hr hlk as M post hS
  unfold SX3_raise at hS
  split at hS
  · rename_i t i0 p0 i
    obtain ⟨rfl, rfl, hM, hS⟩ := hS
    refine ⟨by simp only [lk, wd, rm1, rm2, pick, popn, catS, pushO, aLV, cond_true, cond_false, Bool.not_true, Bool.not_false, Bool.and_true, Bool.and_false, Bool.true_and, Bool.false_and, eq_self, true_and, and_true, Nat.reduceBEq, Nat.reduceAdd, reduceIte, Nat.reduceEqDiff]; decide, sBX3_raise_0 F hr hlk _ _ _ ?_⟩
    simp only [BX3_raise_0, i_push, i_iload, i_aload, i_istore, i_II, i_L, i_if, i_getR, i_putI, i_iald, i_lald, i_callV, i_iret, lk, wd, rm1, rm2, pick, popn, catS, pushO, aLV, cond_true, cond_false, Bool.not_true, Bool.not_false, Bool.and_true, Bool.and_false, Bool.true_and, Bool.false_and, eq_self, true_and, and_true, Nat.reduceBEq, Nat.reduceAdd, reduceIte, Nat.reduceEqDiff, SX3_wayTo]
    try simp only [tCnt, aK, aN, aR, eq_self, true_and, and_true, Nat.reduceLeDiff, Nat.reduceEqDiff]
    (try simp only [b2i_0, Bool.not_eq_true, Bool.not_eq_false]); (try simp only [show sI M 8 0 0 0 = z0 M from rfl]); generalize hN : z0 M = N at hS hM ⊢
    (try simp only [nar0, nar1])
    by_cases hw : m_wt N p0 i = 0
    · obtain ⟨w1, w2, w3, w4, w5, w6, w7, w8⟩ := wt0 hM hw
      simp only [w8]
      (try simp only [b2i_0, Bool.not_eq_true, Bool.not_eq_false])
      (repeat' (first | with_reducible assumption | exact b2i_1 _ | apply And.intro | intro _)) <;> (first | with_reducible assumption | (exfalso; with_reducible contradiction) | (simpa [m_raise, *] using hS) | (simp_all [m_raise]; done) | decide)
    · (try simp only [b2i_0, Bool.not_eq_true, Bool.not_eq_false])
      (repeat' (first | with_reducible assumption | exact b2i_1 _ | apply And.intro | intro _)) <;> (first | with_reducible assumption | (exfalso; with_reducible contradiction) | (simpa [m_raise, *] using hS) | (simp_all [m_raise]; done) | decide)
  · exact hS.elim
def SX3_canBe : SP := fun as M post => match as with
  | [.inr (t, i0), .inl (.int a), .inl (.int f), .inl (.int k)] => t = 8 ∧ i0 = 0 ∧ vp_in a 960 ∧ GR (M.2.2 13 0 (cl a)) ∧ post (some (.inl (.int (b2i (mCan M (cl a) f k = true))))) M
  | _ => False
abbrev rmX3_canBe : Room := ({ frames := 2, cells := 0, slots := 0, locals := 120 } : Room)
def BX3_canBe_44 (Qr : Option AV → MM → Prop) (lv : LV) (st : List AV) (M : MM) : Prop := (i_dstore 6 (i_dload 6 (i_call 1 SX3_isInLongs (i_if (fun a => a = 0) (i_push (.inl (.int 0)) (i_zret Qr)) (i_dload 6 (i_D (fun a => .inl (.long (FP.d2l a))) (i_lload 4 (i_lcmp (i_if (fun a => a = 0) (i_push (.inl (.int 1)) (i_zret Qr)) (i_push (.inl (.int 0)) (i_zret Qr))))))))))) lv st M
set_option maxRecDepth 100000 in
set_option maxHeartbeats 4000000 in
theorem sBX3_canBe_44 {p : Program} {l : Launch} {e : Env} {s : State} {m : MethodId} {args : Array Value} {below : List Frame} {meth : Method} {c : Code} {G : Nat → Nat → Nat} {cy dC : Nat → ClassId} {dI : Nat → Nat → Nat} {Qr : Option AV → MM → Prop} (F : FX p m c cX3_canBe 8 RX3 s args (AW G) G cy dC dI) (hr : meth.sig.returnType = (some .boolean)) (hlk : meth.locks = false) : SO p l e rmX3_canBe s m args below meth c 0 0 (MQ below (QI G cy dC dI Qr) args s 0 0 (AW G)) 8 (AW G) G cy dC dI 44 (BX3_canBe_44 Qr) := by
  exact (s_dstore F dX3_canBe_44 (by decide) (s_dload F dX3_canBe_46 (s_callSi F dX3_canBe_48 (ctX3_isInLongs l) (lw_S q600 q601 q4 q602) ⟨rfl, rfl⟩ (by decide +kernel) (by decide) ⟨Nat.zero_le _, Nat.zero_le _⟩ (s_if_eq F dX3_canBe_51 (by decide) (s_iconst F dX3_canBe_67 (by decide) (s_zret F dX3_canBe_68 hr hlk)) (s_dload F dX3_canBe_54 (s_d2l F dX3_canBe_56 (s_lload F dX3_canBe_57 (s_lcmp F dX3_canBe_59 (s_if_ne F dX3_canBe_60 (by decide) (s_iconst F dX3_canBe_67 (by decide) (s_zret F dX3_canBe_68 hr hlk)) (s_iconst F dX3_canBe_63 (by decide) (s_goto F dX3_canBe_64 (by decide) (s_zret F dX3_canBe_68 hr hlk))))))))))))
def BX3_canBe_0 (Qr : Option AV → MM → Prop) (lv : LV) (st : List AV) (M : MM) : Prop := (i_iload 2 (i_call 1 SX3_isWhole (i_if (fun a => a = 0) (i_aload 0 (i_getR 8 13 (fun _ => 0) (i_iload 1 (i_dald (i_dstore 4 (i_iload 3 (i_call 1 SX3_isWhole (i_if (fun a => a = 0) (i_iload 3 (i_push (.inl (.int 6)) (i_cmp (fun a b => a = b) (i_push (.inl (.int 1)) (i_zret Qr)) (i_dload 4 (i_d2f (i_f2d (i_dload 4 (i_dcmp .l (i_if (fun a => a = 0) (i_push (.inl (.int 1)) (i_zret Qr)) (i_push (.inl (.int 0)) (i_zret Qr))))))))))) (i_dload 4 (i_call 1 SX3_isInLongs (i_if (fun a => a = 0) (i_push (.inl (.int 0)) (i_zret Qr)) (i_dload 4 (i_D (fun a => .inl (.long (FP.d2l a))) (i_L (fun a => .inl (.double (FP.l2d a))) (i_dload 4 (i_dcmp .l (i_if (fun a => a = 0) (i_iload 3 (i_dload 4 (i_D (fun a => .inl (.long (FP.d2l a))) (i_call 2 SX3_fits (i_if (fun a => a = 0) (i_push (.inl (.int 0)) (i_zret Qr)) (i_push (.inl (.int 1)) (i_zret Qr))))))) (i_push (.inl (.int 0)) (i_zret Qr))))))))))))))))))) (i_aload 0 (i_getR 8 12 (fun _ => 0) (i_iload 1 (i_lald (i_lstore 4 (i_iload 3 (i_call 1 SX3_isWhole (i_if (fun a => a = 0) (i_iload 3 (i_push (.inl (.int 5)) (i_cmp (fun a b => a = b) (i_lload 4 (i_L (fun a => .inl (.float (FP.l2f a))) (i_f2d (i_cut [4] (BX3_canBe_44 Qr))))) (i_lload 4 (i_L (fun a => .inl (.double (FP.l2d a))) (i_cut [4] (BX3_canBe_44 Qr))))))) (i_iload 3 (i_lload 4 (i_call 2 SX3_fits (i_zret Qr))))))))))))))) lv st M
set_option maxRecDepth 100000 in
set_option maxHeartbeats 4000000 in
theorem sBX3_canBe_0 {p : Program} {l : Launch} {e : Env} {s : State} {m : MethodId} {args : Array Value} {below : List Frame} {meth : Method} {c : Code} {G : Nat → Nat → Nat} {cy dC : Nat → ClassId} {dI : Nat → Nat → Nat} {Qr : Option AV → MM → Prop} (F : FX p m c cX3_canBe 8 RX3 s args (AW G) G cy dC dI) (hr : meth.sig.returnType = (some .boolean)) (hlk : meth.locks = false) : SO p l e rmX3_canBe s m args below meth c 0 0 (MQ below (QI G cy dC dI Qr) args s 0 0 (AW G)) 8 (AW G) G cy dC dI 0 (BX3_canBe_0 Qr) := by
  exact (s_iload_n F dX3_canBe_0 rfl (s_callSi F dX3_canBe_1 (ctX3_isWhole l) (lw_S q594 q595 q4 q596) ⟨rfl, rfl⟩ (by decide +kernel) (by decide) ⟨Nat.zero_le _, Nat.zero_le _⟩ (s_if_eq F dX3_canBe_4 (by decide) (s_aload_n F dX3_canBe_69 rfl (s_getR F (ci := 3) (f := 5) dX3_canBe_70 rfl in_X3 (by decide) q472 (fun _ _ _ _ => ⟨_, rfl, rfl⟩) (s_iload_n F dX3_canBe_73 rfl (s_dald F dX3_canBe_74 (s_dstore F dX3_canBe_75 (by decide) (s_iload_n F dX3_canBe_77 rfl (s_callSi F dX3_canBe_78 (ctX3_isWhole l) (lw_S q594 q595 q4 q596) ⟨rfl, rfl⟩ (by decide +kernel) (by decide) ⟨Nat.zero_le _, Nat.zero_le _⟩ (s_if_eq F dX3_canBe_81 (by decide) (s_iload_n F dX3_canBe_118 rfl (s_bipush F dX3_canBe_119 (by decide) (s_icmp_eq F dX3_canBe_121 (by decide) (s_iconst F dX3_canBe_134 (by decide) (s_goto F dX3_canBe_135 (by decide) (s_zret F dX3_canBe_139 hr hlk))) (s_dload F dX3_canBe_124 (s_d2f F dX3_canBe_126 (s_f2d F dX3_canBe_127 (s_dload F dX3_canBe_128 (s_dcmp F dX3_canBe_130 (s_if_ne F dX3_canBe_131 (by decide) (s_iconst F dX3_canBe_138 (by decide) (s_zret F dX3_canBe_139 hr hlk)) (s_iconst F dX3_canBe_134 (by decide) (s_goto F dX3_canBe_135 (by decide) (s_zret F dX3_canBe_139 hr hlk)))))))))))) (s_dload F dX3_canBe_84 (s_callSi F dX3_canBe_86 (ctX3_isInLongs l) (lw_S q600 q601 q4 q602) ⟨rfl, rfl⟩ (by decide +kernel) (by decide) ⟨Nat.zero_le _, Nat.zero_le _⟩ (s_if_eq F dX3_canBe_89 (by decide) (s_iconst F dX3_canBe_116 (by decide) (s_zret F dX3_canBe_117 hr hlk)) (s_dload F dX3_canBe_92 (s_d2l F dX3_canBe_94 (s_l2d F dX3_canBe_95 (s_dload F dX3_canBe_96 (s_dcmp F dX3_canBe_98 (s_if_ne F dX3_canBe_99 (by decide) (s_iconst F dX3_canBe_116 (by decide) (s_zret F dX3_canBe_117 hr hlk)) (s_iload_n F dX3_canBe_102 rfl (s_dload F dX3_canBe_103 (s_d2l F dX3_canBe_105 (s_callSi F dX3_canBe_106 (ctX3_fits l) (lw_S q597 q598 q4 q599) ⟨rfl, rfl⟩ (by decide +kernel) (by decide) ⟨Nat.zero_le _, Nat.zero_le _⟩ (s_if_eq F dX3_canBe_109 (by decide) (s_iconst F dX3_canBe_116 (by decide) (s_zret F dX3_canBe_117 hr hlk)) (s_iconst F dX3_canBe_112 (by decide) (s_goto F dX3_canBe_113 (by decide) (s_zret F dX3_canBe_117 hr hlk))))))))))))))))))))))))) (s_aload_n F dX3_canBe_7 rfl (s_getR F (ci := 3) (f := 4) dX3_canBe_8 rfl in_X3 (by decide) q471 (fun _ _ _ _ => ⟨_, rfl, rfl⟩) (s_iload_n F dX3_canBe_11 rfl (s_lald F dX3_canBe_12 (s_lstore F dX3_canBe_13 (by decide) (s_iload_n F dX3_canBe_15 rfl (s_callSi F dX3_canBe_16 (ctX3_isWhole l) (lw_S q594 q595 q4 q596) ⟨rfl, rfl⟩ (by decide +kernel) (by decide) ⟨Nat.zero_le _, Nat.zero_le _⟩ (s_if_eq F dX3_canBe_19 (by decide) (s_iload_n F dX3_canBe_29 rfl (s_iconst F dX3_canBe_30 (by decide) (s_icmp_ne F dX3_canBe_31 (by decide) (s_lload F dX3_canBe_41 (s_l2d F dX3_canBe_43 (s_cut [4] (sBX3_canBe_44 F hr hlk)))) (s_lload F dX3_canBe_34 (s_l2f F dX3_canBe_36 (s_f2d F dX3_canBe_37 (s_goto F dX3_canBe_38 (by decide) (s_cut [4] (sBX3_canBe_44 F hr hlk))))))))) (s_iload_n F dX3_canBe_22 rfl (s_lload F dX3_canBe_23 (s_callSi F dX3_canBe_25 (ctX3_fits l) (lw_S q597 q598 q4 q599) ⟨rfl, rfl⟩ (by decide +kernel) (by decide) ⟨Nat.zero_le _, Nat.zero_le _⟩ (s_zret F dX3_canBe_28 hr hlk)))))))))))))))
set_option maxRecDepth 100000 in
set_option maxHeartbeats 4000000 in
theorem ctX3_canBe (l : Launch) : CI l yX3_canBe (ws_ yX3_canBe cX3_canBe 8 (some .boolean)) rmX3_canBe SX3_canBe := by
  refine mk_CI (by decide) ?_
  intro p e s m args below meth c G cy dC dI F hr hlk as M post hS
  unfold SX3_canBe at hS
  split at hS
  · rename_i t i0 a f k
    obtain ⟨rfl, rfl, hv, hg, hS⟩ := hS
    refine ⟨by simp only [lk, wd, rm1, rm2, pick, popn, catS, pushO, aLV, cond_true, cond_false, Bool.not_true, Bool.not_false, Bool.and_true, Bool.and_false, Bool.true_and, Bool.false_and, eq_self, true_and, and_true, Nat.reduceBEq, Nat.reduceAdd, reduceIte, Nat.reduceEqDiff]; decide, sBX3_canBe_0 F hr hlk _ _ _ ?_⟩
    simp only [BX3_canBe_0, BX3_canBe_44, i_push, i_iload, i_lload, i_dload, i_aload, i_lstore, i_dstore, i_lcmp, i_dcmp, i_L, i_D, i_f2d, i_d2f, i_if, i_cmp, i_getR, i_lald, i_dald, i_call, i_zret, i_cut, lk, wd, rm1, rm2, pick, popn, catS, pushO, aLV, cond_true, cond_false, Bool.not_true, Bool.not_false, Bool.and_true, Bool.and_false, Bool.true_and, Bool.false_and, eq_self, true_and, and_true, Nat.reduceBEq, Nat.reduceAdd, reduceIte, Nat.reduceEqDiff, SX3_fits, SX3_isInLongs, SX3_isWhole]
    try simp only [tCnt, aK, aN, aR, eq_self, true_and, and_true, Nat.reduceLeDiff, Nat.reduceEqDiff]
    have hg2 := hg.2.1
    have hg3 := hg.2.2.1
    have hf5 := fp_w5 (M.2.1 12 0 (cl a))
    (try simp only [b2i_0, Bool.not_eq_true, Bool.not_eq_false])
    (repeat' (first | with_reducible assumption | exact b2i_1 _ | apply And.intro | intro _)) <;> (first | with_reducible assumption | (exfalso; with_reducible contradiction) | (simpa [mCan, b2i, *] using hS) | (simp_all [mCan, b2i]; done) | decide)
  · exact hS.elim
def SX3_get : SP := fun as M post => match as with
  | [.inr (t, i0), .inl (.int p0), .inl (.int i)] => t = 8 ∧ i0 = 0 ∧ MOK (z0 M) ∧ post (some (.inl (.long (if m_gc (z0 M) p0 i = 0 then mTel (z0 M) (cl p0) (cl i) else 0)))) (sI M 8 0 0 (m_gc (z0 M) p0 i))
  | _ => False
abbrev rmX3_get : Room := ({ frames := 2, cells := 0, slots := 0, locals := 120 } : Room)
def BX3_get_85 (Qr : Option AV → MM → Prop) (lv : LV) (st : List AV) (M : MM) : Prop := (i_aload 0 (i_getI 8 0 (i_if (fun a => a = 0) (i_aload 0 (i_iload 1 (i_iload 2 (i_callV 2 8 SX3_telling (i_lret Qr))))) (i_push (.inl (.long 0)) (i_lret Qr))))) lv st M
set_option maxRecDepth 100000 in
set_option maxHeartbeats 4000000 in
theorem sBX3_get_85 {p : Program} {l : Launch} {e : Env} {s : State} {m : MethodId} {args : Array Value} {below : List Frame} {meth : Method} {c : Code} {G : Nat → Nat → Nat} {cy dC : Nat → ClassId} {dI : Nat → Nat → Nat} {Qr : Option AV → MM → Prop} (F : FX p m c cX3_get 3 RX3 s args (AW G) G cy dC dI) (hr : meth.sig.returnType = (some .long)) (hlk : meth.locks = false) : SO p l e rmX3_get s m args below meth c 0 0 (MQ below (QL G cy dC dI Qr) args s 0 0 (AW G)) 3 (AW G) G cy dC dI 85 (BX3_get_85 Qr) := by
  exact (s_aload_n F dX3_get_85 rfl (s_getI F (ci := 3) dX3_get_86 rfl in_X3 (by decide) q467 (fun _ _ _ _ => ⟨_, rfl, rfl⟩) (s_if_eq F dX3_get_89 (by decide) (s_aload_n F dX3_get_96 rfl (s_iload_n F dX3_get_97 rfl (s_iload_n F dX3_get_98 rfl (s_callVl F dX3_get_99 (ctX3_telling l) (lw_V q578 q580 qs14 q4 q581) ⟨rfl, rfl⟩ (by decide +kernel) (by decide) ⟨Nat.zero_le _, Nat.zero_le _⟩ (ci := 3) rfl (fun _ _ _ _ => ⟨_, rfl⟩) (s_lret F dX3_get_102 hr hlk))))) (s_lconst F dX3_get_92 (by decide) (s_goto F dX3_get_93 (by decide) (s_lret F dX3_get_102 hr hlk))))))
def BX3_get_0 (Qr : Option AV → MM → Prop) (lv : LV) (st : List AV) (M : MM) : Prop := (i_aload 0 (i_push (.inl (.int 0)) (i_putI 8 0 (i_iload 1 (i_call 1 SX3_isPlace (i_if (fun a => a = 0) (i_aload 0 (i_push (.inl (.int 2)) (i_putI 8 0 (i_cut [0, 1, 2] (BX3_get_85 Qr))))) (i_aload 0 (i_iload 1 (i_callV 1 8 SX3_isNone (i_if (fun a => a = 0) (i_aload 0 (i_iload 1 (i_iload 2 (i_callV 2 8 SX3_has (i_if (fun a => a = 0) (i_aload 0 (i_push (.inl (.int 2)) (i_putI 8 0 (i_cut [0, 1, 2] (BX3_get_85 Qr))))) (i_aload 0 (i_getR 8 9 (fun _ => 0) (i_iload 1 (i_iald 0 (i_push (.inl (.int 7)) (i_cmp (fun a b => a < b) (i_cut [0, 1, 2] (BX3_get_85 Qr)) (i_aload 0 (i_getR 8 12 (fun _ => 0) (i_push (.inl (.int 40)) (i_iload 1 (i_II (fun a b => a * b) (i_iload 2 (i_II (fun a b => a + b) (i_lald (i_push (.inl (.long 0)) (i_lcmp (i_if (fun a => a < 0) (i_aload 0 (i_push (.inl (.int 1)) (i_putI 8 0 (i_cut [0, 1, 2] (BX3_get_85 Qr))))) (i_cut [0, 1, 2] (BX3_get_85 Qr)))))))))))))))))))))))) (i_aload 0 (i_push (.inl (.int 1)) (i_putI 8 0 (i_cut [0, 1, 2] (BX3_get_85 Qr))))))))))))))) lv st M
set_option maxRecDepth 100000 in
set_option maxHeartbeats 4000000 in
theorem sBX3_get_0 {p : Program} {l : Launch} {e : Env} {s : State} {m : MethodId} {args : Array Value} {below : List Frame} {meth : Method} {c : Code} {G : Nat → Nat → Nat} {cy dC : Nat → ClassId} {dI : Nat → Nat → Nat} {Qr : Option AV → MM → Prop} (F : FX p m c cX3_get 3 RX3 s args (AW G) G cy dC dI) (hr : meth.sig.returnType = (some .long)) (hlk : meth.locks = false) : SO p l e rmX3_get s m args below meth c 0 0 (MQ below (QL G cy dC dI Qr) args s 0 0 (AW G)) 3 (AW G) G cy dC dI 0 (BX3_get_0 Qr) := by
  exact (s_aload_n F dX3_get_0 rfl (s_iconst F dX3_get_1 (by decide) (s_putI F (ci := 3) dX3_get_2 rfl in_X3 tyX3 tyX3_ok nmX3 (by decide) q467 rfl (by decide +kernel) (fun _ _ _ _ _ => ⟨_, rfl, Nat.le_of_ble_eq_true rfl, rfl⟩) (s_iload_n F dX3_get_5 rfl (s_callSi F dX3_get_6 (ctX3_isPlace l) (lw_S q529 q530 q4 q531) ⟨rfl, rfl⟩ (by decide +kernel) (by decide) ⟨Nat.zero_le _, Nat.zero_le _⟩ (s_if_ne F dX3_get_9 (by decide) (s_aload_n F dX3_get_20 rfl (s_iload_n F dX3_get_21 rfl (s_callVi F dX3_get_22 (ctX3_isNone l) (lw_V q540 q542 qs11 q4 q543) ⟨rfl, rfl⟩ (by decide +kernel) (by decide) ⟨Nat.zero_le _, Nat.zero_le _⟩ (ci := 3) rfl (fun _ _ _ _ => ⟨_, rfl⟩) (s_if_eq F dX3_get_25 (by decide) (s_aload_n F dX3_get_36 rfl (s_iload_n F dX3_get_37 rfl (s_iload_n F dX3_get_38 rfl (s_callVi F dX3_get_39 (ctX3_has l) (lw_V q564 q566 qs13 q4 q567) ⟨rfl, rfl⟩ (by decide +kernel) (by decide) ⟨Nat.zero_le _, Nat.zero_le _⟩ (ci := 3) rfl (fun _ _ _ _ => ⟨_, rfl⟩) (s_if_ne F dX3_get_42 (by decide) (s_aload_n F dX3_get_53 rfl (s_getR F (ci := 3) (f := 1) dX3_get_54 rfl in_X3 (by decide) q468 (fun _ _ _ _ => ⟨_, rfl, rfl⟩) (s_iload_n F dX3_get_57 rfl (s_iald F dX3_get_58 (s_bipush F dX3_get_59 (by decide) (s_icmp_lt F dX3_get_61 (by decide) (s_cut [0, 1, 2] (sBX3_get_85 F hr hlk)) (s_aload_n F dX3_get_64 rfl (s_getR F (ci := 3) (f := 4) dX3_get_65 rfl in_X3 (by decide) q471 (fun _ _ _ _ => ⟨_, rfl, rfl⟩) (s_bipush F dX3_get_68 (by decide) (s_iload_n F dX3_get_70 rfl (s_imul F dX3_get_71 (s_iload_n F dX3_get_72 rfl (s_iadd F dX3_get_73 (s_lald F dX3_get_74 (s_lconst F dX3_get_75 (by decide) (s_lcmp F dX3_get_76 (s_if_ge F dX3_get_77 (by decide) (s_cut [0, 1, 2] (sBX3_get_85 F hr hlk)) (s_aload_n F dX3_get_80 rfl (s_iconst F dX3_get_81 (by decide) (s_putI F (ci := 3) dX3_get_82 rfl in_X3 tyX3 tyX3_ok nmX3 (by decide) q467 rfl (by decide +kernel) (fun _ _ _ _ _ => ⟨_, rfl, Nat.le_of_ble_eq_true rfl, rfl⟩) (s_cut [0, 1, 2] (sBX3_get_85 F hr hlk)))))))))))))))))))))) (s_aload_n F dX3_get_45 rfl (s_iconst F dX3_get_46 (by decide) (s_putI F (ci := 3) dX3_get_47 rfl in_X3 tyX3 tyX3_ok nmX3 (by decide) q467 rfl (by decide +kernel) (fun _ _ _ _ _ => ⟨_, rfl, Nat.le_of_ble_eq_true rfl, rfl⟩) (s_goto F dX3_get_50 (by decide) (s_cut [0, 1, 2] (sBX3_get_85 F hr hlk))))))))))) (s_aload_n F dX3_get_28 rfl (s_iconst F dX3_get_29 (by decide) (s_putI F (ci := 3) dX3_get_30 rfl in_X3 tyX3 tyX3_ok nmX3 (by decide) q467 rfl (by decide +kernel) (fun _ _ _ _ _ => ⟨_, rfl, Nat.le_of_ble_eq_true rfl, rfl⟩) (s_goto F dX3_get_33 (by decide) (s_cut [0, 1, 2] (sBX3_get_85 F hr hlk)))))))))) (s_aload_n F dX3_get_12 rfl (s_iconst F dX3_get_13 (by decide) (s_putI F (ci := 3) dX3_get_14 rfl in_X3 tyX3 tyX3_ok nmX3 (by decide) q467 rfl (by decide +kernel) (fun _ _ _ _ _ => ⟨_, rfl, Nat.le_of_ble_eq_true rfl, rfl⟩) (s_goto F dX3_get_17 (by decide) (s_cut [0, 1, 2] (sBX3_get_85 F hr hlk))))))))))))
set_option maxRecDepth 100000 in
set_option maxHeartbeats 4000000 in
theorem ctX3_get (l : Launch) : CL l yX3_get (ws_ yX3_get cX3_get 3 (some .long)) rmX3_get SX3_get := by
  refine mk_CL (by decide) ?_
  intro p e s m args below meth c G cy dC dI F hr hlk as M post hS
  unfold SX3_get at hS
  split at hS
  · rename_i t i0 p0 i
    obtain ⟨rfl, rfl, hM, hS⟩ := hS
    refine ⟨by simp only [lk, wd, rm1, rm2, pick, popn, catS, pushO, aLV, cond_true, cond_false, Bool.not_true, Bool.not_false, Bool.and_true, Bool.and_false, Bool.true_and, Bool.false_and, eq_self, true_and, and_true, Nat.reduceBEq, Nat.reduceAdd, reduceIte, Nat.reduceEqDiff]; decide, sBX3_get_0 F hr hlk _ _ _ ?_⟩
    simp only [BX3_get_0, BX3_get_85, i_push, i_iload, i_aload, i_II, i_lcmp, i_if, i_cmp, i_getI, i_getR, i_putI, i_iald, i_lald, i_call, i_callV, i_lret, i_cut, lk, wd, rm1, rm2, pick, popn, catS, pushO, aLV, cond_true, cond_false, Bool.not_true, Bool.not_false, Bool.and_true, Bool.and_false, Bool.true_and, Bool.false_and, eq_self, true_and, and_true, Nat.reduceBEq, Nat.reduceAdd, reduceIte, Nat.reduceEqDiff, SX3_has, SX3_isNone, SX3_isPlace, SX3_telling]
    try simp only [tCnt, aK, aN, aR, eq_self, true_and, and_true, Nat.reduceLeDiff, Nat.reduceEqDiff]
    simp only [sI_sI, sI_s, b2i_0, Bool.not_eq_true, Bool.not_eq_false]
    generalize hN : z0 M = N at hS hM
    have hN2 : sI M 8 0 0 0 = N := hN
    simp only [hN2]
    have hN0 : N.1 8 0 0 = 0 := by rw [← hN]; simp [sI]
    have hgA := hM.2.1
    have hH : isPl p0 = true → mHas N (cl p0) i = true → ¬ i < 0 ∧ cl i < mcnt N (cl p0) ∧ cl i < 40 := fun h1 h2 => mHas_in hM (isPl_in h1).2 h2
    have hI : isPl p0 = true → mHas N (cl p0) i = true → vp_in (40 * p0 + i) 960 := fun h1 h2 => (ix_v h1 (hH h1 h2).1 (hH h1 h2).2.2).1
    have hE : isPl p0 = true → mHas N (cl p0) i = true → (40 * p0 + i).toNatClampNeg = 40 * cl p0 + cl i := fun h1 h2 => (ix_v h1 (hH h1 h2).1 (hH h1 h2).2.2).2
    by_cases hpl : isPl p0 = true
    · have hv := (isPl_in hpl).1
      by_cases hha : mHas N (cl p0) i = true
      · simp only [hE hpl hha]
        have hi1 := hI hpl hha
        obtain ⟨hi0, hic, hi40⟩ := hH hpl hha
        have hgi := hgA (40 * cl p0 + cl i)
        (try simp only [b2i_0, Bool.not_eq_true, Bool.not_eq_false])
        (repeat' (first | with_reducible assumption | exact b2i_1 _ | apply And.intro | intro _)) <;> (first | with_reducible assumption | (exfalso; with_reducible contradiction) | (simpa [m_gc, *] using hS) | (simp_all [m_gc]; done) | decide)
      · (try simp only [b2i_0, Bool.not_eq_true, Bool.not_eq_false])
        (repeat' (first | with_reducible assumption | exact b2i_1 _ | apply And.intro | intro _)) <;> (first | with_reducible assumption | (exfalso; with_reducible contradiction) | (simpa [m_gc, *] using hS) | (simp_all [m_gc]; done) | decide)
    · (try simp only [b2i_0, Bool.not_eq_true, Bool.not_eq_false])
      (repeat' (first | with_reducible assumption | exact b2i_1 _ | apply And.intro | intro _)) <;> (first | with_reducible assumption | (exfalso; with_reducible contradiction) | (simpa [m_gc, *] using hS) | (simp_all [m_gc]; done) | decide)
  · exact hS.elim
