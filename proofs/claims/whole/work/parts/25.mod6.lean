def m_ct (N : MM) (p c : Nat) (k : Int32) : MM := if N.1 9 0 p < 5 ∧ ¬ k < 5 then rD N 13 0 (fun j => if 40 * p ≤ j ∧ j < 40 * p + c then FP.l2d (N.2.1 12 0 j) else N.2.2 13 0 j) else if ¬ N.1 9 0 p < 5 ∧ k < 5 then rL N 12 0 (fun j => if 40 * p ≤ j ∧ j < 40 * p + c then FP.d2l (N.2.2 13 0 j) else N.2.1 12 0 j) else N
def m_turn (N : MM) (p k : Int32) : Int32 × MM := if isPl p = false ∨ isKN k = false then (-1, N) else if ¬ mWay N (cl p) 0 = 0 then (mWay N (cl p) 0, N) else if fst0 (fun i => mCan N (40 * cl p + i) (N.1 9 0 (cl p)) k) (mcnt N (cl p)) < mcnt N (cl p) then (-20 - nI (fst0 (fun i => mCan N (40 * cl p + i) (N.1 9 0 (cl p)) k) (mcnt N (cl p))), N) else (1, sI (m_ct N (cl p) (mcnt N (cl p)) k) 9 0 (cl p) k)
theorem mct_1 (N : MM) (p c : Nat) (k : Int32) : (m_ct N p c k).1 = N.1 := by
  unfold m_ct
  split
  · rfl
  · split <;> rfl
theorem mct_0 (N : MM) (p : Nat) (k : Int32) : m_ct N p 0 k = N := by
  unfold m_ct
  split
  · refine MM_ext (fun _ _ _ => rfl) (fun _ _ _ => rfl) (fun t i j => ?_)
    simp only [rD]
    split
    · rename_i h; obtain ⟨rfl, rfl⟩ := h
      dsimp only
      rw [if_neg (by omega)]
    · rfl
  · split
    · refine MM_ext (fun _ _ _ => rfl) (fun t i j => ?_) (fun _ _ _ => rfl)
      simp only [rL]
      split
      · rename_i h; obtain ⟨rfl, rfl⟩ := h
        dsimp only
        rw [if_neg (by omega)]
      · rfl
    · rfl
theorem mct_sD {N : MM} {p i : Nat} {k : Int32} (h1 : N.1 9 0 p < 5) (h2 : ¬ k < 5) : sD (m_ct N p i k) 13 0 (40 * p + i) (FP.l2d ((m_ct N p i k).2.1 12 0 (40 * p + i))) = m_ct N p (i + 1) k := by
  unfold m_ct
  simp only [if_pos (And.intro h1 h2)]
  refine MM_ext (fun _ _ _ => rfl) (fun _ _ _ => rfl) (fun t z j => ?_)
  simp only [rD, sD]
  by_cases h : t = 13 ∧ z = 0
  · obtain ⟨rfl, rfl⟩ := h
    by_cases hj : j = 40 * p + i
    · subst hj
      simp only [and_self, if_true]
      rw [if_pos (by omega)]
    · simp only [true_and, hj, if_false, and_self, if_true]
      by_cases h3 : 40 * p ≤ j ∧ j < 40 * p + i
      · rw [if_pos h3, if_pos (by omega)]
      · rw [if_neg h3, if_neg (by omega)]
  · rw [if_neg (fun q => h ⟨q.1, q.2.1⟩), if_neg h, if_neg h]
theorem mct_sL {N : MM} {p i : Nat} {k : Int32} (h1 : ¬ N.1 9 0 p < 5) (h2 : k < 5) : sL (m_ct N p i k) 12 0 (40 * p + i) (FP.d2l ((m_ct N p i k).2.2 13 0 (40 * p + i))) = m_ct N p (i + 1) k := by
  unfold m_ct
  simp only [if_neg (show ¬ (N.1 9 0 p < 5 ∧ ¬ k < 5) from fun q => h1 q.1), if_pos (And.intro h1 h2)]
  refine MM_ext (fun _ _ _ => rfl) (fun t z j => ?_) (fun _ _ _ => rfl)
  simp only [rL, sL]
  by_cases h : t = 12 ∧ z = 0
  · obtain ⟨rfl, rfl⟩ := h
    by_cases hj : j = 40 * p + i
    · subst hj
      simp only [and_self, if_true]
      rw [if_pos (by omega)]
    · simp only [true_and, hj, if_false, and_self, if_true]
      by_cases h3 : 40 * p ≤ j ∧ j < 40 * p + i
      · rw [if_pos h3, if_pos (by omega)]
      · rw [if_neg h3, if_neg (by omega)]
  · rw [if_neg (fun q => h ⟨q.1, q.2.1⟩), if_neg h, if_neg h]
theorem mct_id {N : MM} {p i : Nat} {k : Int32} (h : (N.1 9 0 p < 5) = (k < 5)) : m_ct N p i k = N := by
  unfold m_ct
  rw [if_neg (fun q => q.2 (h ▸ q.1)), if_neg (fun q => q.1 (h ▸ q.2))]

def SX3_turn : SP := fun as M post => match as with
  | [.inr (t, i0), .inl (.int p0), .inl (.int k)] => t = 8 ∧ i0 = 0 ∧ MOK (z0 M) ∧ post (some (.inl (.int (m_turn (z0 M) p0 k).1))) (m_turn (z0 M) p0 k).2
  | _ => False
abbrev rmX3_turn : Room := ({ frames := 3, cells := 0, slots := 0, locals := 180 } : Room)
def BX3_turn_174 (Qr : Option AV → MM → Prop) (K48 K91 : PT) (lv : LV) (st : List AV) (M : MM) : Prop := (i_iinc 5 1 (i_cut [0, 1, 2, 4, 5] K91)) lv st M
set_option maxRecDepth 100000 in
set_option maxHeartbeats 4000000 in
theorem sBX3_turn_174 {p : Program} {l : Launch} {e : Env} {s : State} {m : MethodId} {args : Array Value} {below : List Frame} {meth : Method} {c : Code} {G : Nat → Nat → Nat} {cy dC : Nat → ClassId} {dI : Nat → Nat → Nat} {Qr : Option AV → MM → Prop} {K48 K91 : PT} (F : FX p m c cX3_turn 7 RX3 s args (AW G) G cy dC dI) (hr : meth.sig.returnType = (some .int)) (hlk : meth.locks = false) (h48 : SO p l e rmX3_turn s m args below meth c 0 0 (MQ below (QI G cy dC dI Qr) args s 0 0 (AW G)) 7 (AW G) G cy dC dI 48 K48) (h91 : SO p l e rmX3_turn s m args below meth c 0 0 (MQ below (QI G cy dC dI Qr) args s 0 0 (AW G)) 7 (AW G) G cy dC dI 91 K91) : SO p l e rmX3_turn s m args below meth c 0 0 (MQ below (QI G cy dC dI Qr) args s 0 0 (AW G)) 7 (AW G) G cy dC dI 174 (BX3_turn_174 Qr K48 K91) := by
  exact (s_iinc F dX3_turn_174 (by decide) (by decide) (s_goto F dX3_turn_177 (by decide) (s_cut [0, 1, 2, 4, 5] h91)))
def BX3_turn_144 (Qr : Option AV → MM → Prop) (K48 K91 : PT) (lv : LV) (st : List AV) (M : MM) : Prop := (i_iload 4 (i_call 1 SX3_isWhole (i_if (fun a => a = 0) (i_iload 2 (i_call 1 SX3_isWhole (i_if (fun a => a = 0) (i_cut [0, 1, 2, 4, 5] (BX3_turn_174 Qr K48 K91)) (i_aload 0 (i_getR 8 12 (fun _ => 0) (i_iload 6 (i_aload 0 (i_getR 8 13 (fun _ => 0) (i_iload 6 (i_dald (i_D (fun a => .inl (.long (FP.d2l a))) (i_last (i_cut [0, 1, 2, 4, 5] (BX3_turn_174 Qr K48 K91)))))))))))))) (i_cut [0, 1, 2, 4, 5] (BX3_turn_174 Qr K48 K91))))) lv st M
set_option maxRecDepth 100000 in
set_option maxHeartbeats 4000000 in
theorem sBX3_turn_144 {p : Program} {l : Launch} {e : Env} {s : State} {m : MethodId} {args : Array Value} {below : List Frame} {meth : Method} {c : Code} {G : Nat → Nat → Nat} {cy dC : Nat → ClassId} {dI : Nat → Nat → Nat} {Qr : Option AV → MM → Prop} {K48 K91 : PT} (F : FX p m c cX3_turn 7 RX3 s args (AW G) G cy dC dI) (hr : meth.sig.returnType = (some .int)) (hlk : meth.locks = false) (h48 : SO p l e rmX3_turn s m args below meth c 0 0 (MQ below (QI G cy dC dI Qr) args s 0 0 (AW G)) 7 (AW G) G cy dC dI 48 K48) (h91 : SO p l e rmX3_turn s m args below meth c 0 0 (MQ below (QI G cy dC dI Qr) args s 0 0 (AW G)) 7 (AW G) G cy dC dI 91 K91) : SO p l e rmX3_turn s m args below meth c 0 0 (MQ below (QI G cy dC dI Qr) args s 0 0 (AW G)) 7 (AW G) G cy dC dI 144 (BX3_turn_144 Qr K48 K91) := by
  exact (s_iload F dX3_turn_144 (s_callSi F dX3_turn_146 (ctX3_isWhole l) (lw_S q594 q595 q4 q596) ⟨rfl, rfl⟩ (by decide +kernel) (by decide) ⟨Nat.zero_le _, Nat.zero_le _⟩ (s_if_ne F dX3_turn_149 (by decide) (s_cut [0, 1, 2, 4, 5] (sBX3_turn_174 F hr hlk h48 h91)) (s_iload_n F dX3_turn_152 rfl (s_callSi F dX3_turn_153 (ctX3_isWhole l) (lw_S q594 q595 q4 q596) ⟨rfl, rfl⟩ (by decide +kernel) (by decide) ⟨Nat.zero_le _, Nat.zero_le _⟩ (s_if_eq F dX3_turn_156 (by decide) (s_cut [0, 1, 2, 4, 5] (sBX3_turn_174 F hr hlk h48 h91)) (s_aload_n F dX3_turn_159 rfl (s_getR F (ci := 3) (f := 4) dX3_turn_160 rfl in_X3 (by decide) q471 (fun _ _ _ _ => ⟨_, rfl, rfl⟩) (s_iload F dX3_turn_163 (s_aload_n F dX3_turn_165 rfl (s_getR F (ci := 3) (f := 5) dX3_turn_166 rfl in_X3 (by decide) q472 (fun _ _ _ _ => ⟨_, rfl, rfl⟩) (s_iload F dX3_turn_169 (s_dald F dX3_turn_171 (s_d2l F dX3_turn_172 (s_last F dX3_turn_173 (s_cut [0, 1, 2, 4, 5] (sBX3_turn_174 F hr hlk h48 h91)))))))))))))))))
def BX3_turn_91 (Qr : Option AV → MM → Prop) (K48 K91 : PT) (lv : LV) (st : List AV) (M : MM) : Prop := (i_iload 5 (i_aload 0 (i_getR 8 10 (fun _ => 0) (i_iload 1 (i_iald 0 (i_cmp (fun a b => a < b) (i_push (.inl (.int 40)) (i_iload 1 (i_II (fun a b => a * b) (i_iload 5 (i_II (fun a b => a + b) (i_istore 6 (i_iload 4 (i_call 1 SX3_isWhole (i_if (fun a => a = 0) (i_cut [0, 1, 2, 4, 5, 6] (BX3_turn_144 Qr K48 K91)) (i_iload 2 (i_call 1 SX3_isWhole (i_if (fun a => a = 0) (i_aload 0 (i_getR 8 13 (fun _ => 0) (i_iload 6 (i_aload 0 (i_getR 8 12 (fun _ => 0) (i_iload 6 (i_lald (i_L (fun a => .inl (.double (FP.l2d a))) (i_dast (i_cut [0, 1, 2, 4, 5] (BX3_turn_174 Qr K48 K91))))))))))) (i_cut [0, 1, 2, 4, 5, 6] (BX3_turn_144 Qr K48 K91)))))))))))))) (i_aload 0 (i_getR 8 9 (fun _ => 0) (i_iload 1 (i_iload 2 (i_iast (i_push (.inl (.int 1)) (i_iret Qr))))))))))))) lv st M
set_option maxRecDepth 100000 in
set_option maxHeartbeats 4000000 in
theorem sBX3_turn_91 {p : Program} {l : Launch} {e : Env} {s : State} {m : MethodId} {args : Array Value} {below : List Frame} {meth : Method} {c : Code} {G : Nat → Nat → Nat} {cy dC : Nat → ClassId} {dI : Nat → Nat → Nat} {Qr : Option AV → MM → Prop} {K48 K91 : PT} (F : FX p m c cX3_turn 7 RX3 s args (AW G) G cy dC dI) (hr : meth.sig.returnType = (some .int)) (hlk : meth.locks = false) (h48 : SO p l e rmX3_turn s m args below meth c 0 0 (MQ below (QI G cy dC dI Qr) args s 0 0 (AW G)) 7 (AW G) G cy dC dI 48 K48) (h91 : SO p l e rmX3_turn s m args below meth c 0 0 (MQ below (QI G cy dC dI Qr) args s 0 0 (AW G)) 7 (AW G) G cy dC dI 91 K91) : SO p l e rmX3_turn s m args below meth c 0 0 (MQ below (QI G cy dC dI Qr) args s 0 0 (AW G)) 7 (AW G) G cy dC dI 91 (BX3_turn_91 Qr K48 K91) := by
  exact (s_iload F dX3_turn_91 (s_aload_n F dX3_turn_93 rfl (s_getR F (ci := 3) (f := 2) dX3_turn_94 rfl in_X3 (by decide) q469 (fun _ _ _ _ => ⟨_, rfl, rfl⟩) (s_iload_n F dX3_turn_97 rfl (s_iald F dX3_turn_98 (s_icmp_ge F dX3_turn_99 (by decide) (s_aload_n F dX3_turn_180 rfl (s_getR F (ci := 3) (f := 1) dX3_turn_181 rfl in_X3 (by decide) q468 (fun _ _ _ _ => ⟨_, rfl, rfl⟩) (s_iload_n F dX3_turn_184 rfl (s_iload_n F dX3_turn_185 rfl (s_iast F dX3_turn_186 (s_iconst F dX3_turn_187 (by decide) (s_iret F dX3_turn_188 hr hlk))))))) (s_bipush F dX3_turn_102 (by decide) (s_iload_n F dX3_turn_104 rfl (s_imul F dX3_turn_105 (s_iload F dX3_turn_106 (s_iadd F dX3_turn_108 (s_istore F dX3_turn_109 (by decide) (s_iload F dX3_turn_111 (s_callSi F dX3_turn_113 (ctX3_isWhole l) (lw_S q594 q595 q4 q596) ⟨rfl, rfl⟩ (by decide +kernel) (by decide) ⟨Nat.zero_le _, Nat.zero_le _⟩ (s_if_eq F dX3_turn_116 (by decide) (s_cut [0, 1, 2, 4, 5, 6] (sBX3_turn_144 F hr hlk h48 h91)) (s_iload_n F dX3_turn_119 rfl (s_callSi F dX3_turn_120 (ctX3_isWhole l) (lw_S q594 q595 q4 q596) ⟨rfl, rfl⟩ (by decide +kernel) (by decide) ⟨Nat.zero_le _, Nat.zero_le _⟩ (s_if_ne F dX3_turn_123 (by decide) (s_cut [0, 1, 2, 4, 5, 6] (sBX3_turn_144 F hr hlk h48 h91)) (s_aload_n F dX3_turn_126 rfl (s_getR F (ci := 3) (f := 5) dX3_turn_127 rfl in_X3 (by decide) q472 (fun _ _ _ _ => ⟨_, rfl, rfl⟩) (s_iload F dX3_turn_130 (s_aload_n F dX3_turn_132 rfl (s_getR F (ci := 3) (f := 4) dX3_turn_133 rfl in_X3 (by decide) q471 (fun _ _ _ _ => ⟨_, rfl, rfl⟩) (s_iload F dX3_turn_136 (s_lald F dX3_turn_138 (s_l2d F dX3_turn_139 (s_dast F dX3_turn_140 (s_goto F dX3_turn_141 (by decide) (s_cut [0, 1, 2, 4, 5] (sBX3_turn_174 F hr hlk h48 h91))))))))))))))))))))))))))))))
def BX3_turn_48 (Qr : Option AV → MM → Prop) (K48 K91 : PT) (lv : LV) (st : List AV) (M : MM) : Prop := (i_iload 5 (i_aload 0 (i_getR 8 10 (fun _ => 0) (i_iload 1 (i_iald 0 (i_cmp (fun a b => a < b) (i_aload 0 (i_push (.inl (.int 40)) (i_iload 1 (i_II (fun a b => a * b) (i_iload 5 (i_II (fun a b => a + b) (i_iload 4 (i_iload 2 (i_callV 3 8 SX3_canBe (i_if (fun a => a = 0) (i_push (.inl (.int (-20))) (i_iload 5 (i_II (fun a b => a - b) (i_iret Qr)))) (i_iinc 5 1 (i_cut [0, 1, 2, 4, 5] K48)))))))))))) (i_push (.inl (.int 0)) (i_istore 5 (i_cut [0, 1, 2, 4, 5] K91))))))))) lv st M
set_option maxRecDepth 100000 in
set_option maxHeartbeats 4000000 in
theorem sBX3_turn_48 {p : Program} {l : Launch} {e : Env} {s : State} {m : MethodId} {args : Array Value} {below : List Frame} {meth : Method} {c : Code} {G : Nat → Nat → Nat} {cy dC : Nat → ClassId} {dI : Nat → Nat → Nat} {Qr : Option AV → MM → Prop} {K48 K91 : PT} (F : FX p m c cX3_turn 7 RX3 s args (AW G) G cy dC dI) (hr : meth.sig.returnType = (some .int)) (hlk : meth.locks = false) (h48 : SO p l e rmX3_turn s m args below meth c 0 0 (MQ below (QI G cy dC dI Qr) args s 0 0 (AW G)) 7 (AW G) G cy dC dI 48 K48) (h91 : SO p l e rmX3_turn s m args below meth c 0 0 (MQ below (QI G cy dC dI Qr) args s 0 0 (AW G)) 7 (AW G) G cy dC dI 91 K91) : SO p l e rmX3_turn s m args below meth c 0 0 (MQ below (QI G cy dC dI Qr) args s 0 0 (AW G)) 7 (AW G) G cy dC dI 48 (BX3_turn_48 Qr K48 K91) := by
  exact (s_iload F dX3_turn_48 (s_aload_n F dX3_turn_50 rfl (s_getR F (ci := 3) (f := 2) dX3_turn_51 rfl in_X3 (by decide) q469 (fun _ _ _ _ => ⟨_, rfl, rfl⟩) (s_iload_n F dX3_turn_54 rfl (s_iald F dX3_turn_55 (s_icmp_ge F dX3_turn_56 (by decide) (s_iconst F dX3_turn_88 (by decide) (s_istore F dX3_turn_89 (by decide) (s_cut [0, 1, 2, 4, 5] h91))) (s_aload_n F dX3_turn_59 rfl (s_bipush F dX3_turn_60 (by decide) (s_iload_n F dX3_turn_62 rfl (s_imul F dX3_turn_63 (s_iload F dX3_turn_64 (s_iadd F dX3_turn_66 (s_iload F dX3_turn_67 (s_iload_n F dX3_turn_69 rfl (s_callVi F dX3_turn_70 (ctX3_canBe l) (lw_V q590 q592 qs15 q4 q593) ⟨rfl, rfl⟩ (by decide +kernel) (by decide) ⟨Nat.zero_le _, Nat.zero_le _⟩ (ci := 3) rfl (fun _ _ _ _ => ⟨_, rfl⟩) (s_if_ne F dX3_turn_73 (by decide) (s_iinc F dX3_turn_82 (by decide) (by decide) (s_goto F dX3_turn_85 (by decide) (s_cut [0, 1, 2, 4, 5] h48))) (s_bipush F dX3_turn_76 (by decide) (s_iload F dX3_turn_78 (s_isub F dX3_turn_80 (s_iret F dX3_turn_81 hr hlk))))))))))))))))))))
def BX3_turn_0 (Qr : Option AV → MM → Prop) (K48 K91 : PT) (lv : LV) (st : List AV) (M : MM) : Prop := (i_aload 0 (i_push (.inl (.int 0)) (i_putI 8 0 (i_iload 1 (i_call 1 SX3_isPlace (i_if (fun a => a = 0) (i_push (.inl (.int (-1))) (i_iret Qr)) (i_iload 2 (i_push (.inl (.int 0)) (i_push (.inl (.int 6)) (i_call 3 SX3_in (i_if (fun a => a = 0) (i_push (.inl (.int (-1))) (i_iret Qr)) (i_aload 0 (i_iload 1 (i_push (.inl (.int 0)) (i_callV 2 8 SX3_way (i_istore 3 (i_iload 3 (i_if (fun a => a = 0) (i_aload 0 (i_getR 8 9 (fun _ => 0) (i_iload 1 (i_iald 0 (i_istore 4 (i_push (.inl (.int 0)) (i_istore 5 (i_cut [0, 1, 2, 4, 5] K48)))))))) (i_iload 3 (i_iret Qr)))))))))))))))))))) lv st M
set_option maxRecDepth 100000 in
set_option maxHeartbeats 4000000 in
theorem sBX3_turn_0 {p : Program} {l : Launch} {e : Env} {s : State} {m : MethodId} {args : Array Value} {below : List Frame} {meth : Method} {c : Code} {G : Nat → Nat → Nat} {cy dC : Nat → ClassId} {dI : Nat → Nat → Nat} {Qr : Option AV → MM → Prop} {K48 K91 : PT} (F : FX p m c cX3_turn 7 RX3 s args (AW G) G cy dC dI) (hr : meth.sig.returnType = (some .int)) (hlk : meth.locks = false) (h48 : SO p l e rmX3_turn s m args below meth c 0 0 (MQ below (QI G cy dC dI Qr) args s 0 0 (AW G)) 7 (AW G) G cy dC dI 48 K48) (h91 : SO p l e rmX3_turn s m args below meth c 0 0 (MQ below (QI G cy dC dI Qr) args s 0 0 (AW G)) 7 (AW G) G cy dC dI 91 K91) : SO p l e rmX3_turn s m args below meth c 0 0 (MQ below (QI G cy dC dI Qr) args s 0 0 (AW G)) 7 (AW G) G cy dC dI 0 (BX3_turn_0 Qr K48 K91) := by
  exact (s_aload_n F dX3_turn_0 rfl (s_iconst F dX3_turn_1 (by decide) (s_putI F (ci := 3) dX3_turn_2 rfl in_X3 tyX3 tyX3_ok nmX3 (by decide) q467 rfl (by decide +kernel) (fun _ _ _ _ _ => ⟨_, rfl, Nat.le_of_ble_eq_true rfl, rfl⟩) (s_iload_n F dX3_turn_5 rfl (s_callSi F dX3_turn_6 (ctX3_isPlace l) (lw_S q529 q530 q4 q531) ⟨rfl, rfl⟩ (by decide +kernel) (by decide) ⟨Nat.zero_le _, Nat.zero_le _⟩ (s_if_eq F dX3_turn_9 (by decide) (s_iconst F dX3_turn_22 (by decide) (s_iret F dX3_turn_23 hr hlk)) (s_iload_n F dX3_turn_12 rfl (s_iconst F dX3_turn_13 (by decide) (s_bipush F dX3_turn_14 (by decide) (s_callSi F dX3_turn_16 (ctX3_in l) (lw_S q532 q533 q4 q534) ⟨rfl, rfl⟩ (by decide +kernel) (by decide) ⟨Nat.zero_le _, Nat.zero_le _⟩ (s_if_ne F dX3_turn_19 (by decide) (s_aload_n F dX3_turn_24 rfl (s_iload_n F dX3_turn_25 rfl (s_iconst F dX3_turn_26 (by decide) (s_callVi F dX3_turn_27 (ctX3_way l) (lw_V q560 q562 qs12 q4 q563) ⟨rfl, rfl⟩ (by decide +kernel) (by decide) ⟨Nat.zero_le _, Nat.zero_le _⟩ (ci := 3) rfl (fun _ _ _ _ => ⟨_, rfl⟩) (s_istore_n F dX3_turn_30 rfl (by decide) (s_iload_n F dX3_turn_31 rfl (s_if_eq F dX3_turn_32 (by decide) (s_aload_n F dX3_turn_37 rfl (s_getR F (ci := 3) (f := 1) dX3_turn_38 rfl in_X3 (by decide) q468 (fun _ _ _ _ => ⟨_, rfl, rfl⟩) (s_iload_n F dX3_turn_41 rfl (s_iald F dX3_turn_42 (s_istore F dX3_turn_43 (by decide) (s_iconst F dX3_turn_45 (by decide) (s_istore F dX3_turn_46 (by decide) (s_cut [0, 1, 2, 4, 5] h48)))))))) (s_iload_n F dX3_turn_35 rfl (s_iret F dX3_turn_36 hr hlk))))))))) (s_iconst F dX3_turn_22 (by decide) (s_iret F dX3_turn_23 hr hlk)))))))))))))
set_option maxRecDepth 100000 in
set_option maxHeartbeats 4000000 in
theorem ctX3_turn (l : Launch) : CI l yX3_turn (ws_ yX3_turn cX3_turn 7 (some .int)) rmX3_turn SX3_turn := by
  refine mk_CI (by decide) ?_
  intro p e s m args below meth c G cy dC dI F hr hlk as M post hS
  unfold SX3_turn at hS
  split at hS
  · rename_i t i0 p0 k
    obtain ⟨rfl, rfl, hM, hS⟩ := hS
    have hN : ∃ N, N = z0 M := ⟨_, rfl⟩
    obtain ⟨N, hN⟩ := hN
    rw [← hN] at hS hM
    unfold m_turn at hS
    by_cases hbad : isPl p0 = false ∨ isKN k = false ∨ ¬ mWay N (cl p0) 0 = 0
    · refine ⟨by simp only [lk, wd, rm1, rm2, pick, popn, catS, pushO, aLV, cond_true, cond_false, Bool.not_true, Bool.not_false, Bool.and_true, Bool.and_false, Bool.true_and, Bool.false_and, eq_self, true_and, and_true, Nat.reduceBEq, Nat.reduceAdd, reduceIte, Nat.reduceEqDiff]; decide, sBX3_turn_0 F hr hlk SO_no SO_no _ _ _ ?_⟩
      simp only [BX3_turn_0, BX3_turn_48, BX3_turn_91, BX3_turn_144, BX3_turn_174, i_push, i_iload, i_aload, i_istore, i_iinc, i_II, i_L, i_D, i_if, i_cmp, i_getR, i_putI, i_iald, i_lald, i_dald, i_iast, i_last, i_dast, i_call, i_callV, i_iret, i_cut, lk, wd, rm1, rm2, pick, popn, catS, pushO, aLV, cond_true, cond_false, Bool.not_true, Bool.not_false, Bool.and_true, Bool.and_false, Bool.true_and, Bool.false_and, eq_self, true_and, and_true, Nat.reduceBEq, Nat.reduceAdd, reduceIte, Nat.reduceEqDiff, SX3_canBe, SX3_in, SX3_isPlace, SX3_isWhole, SX3_way]
      try simp only [tCnt, aK, aN, aR, eq_self, true_and, and_true, Nat.reduceLeDiff, Nat.reduceEqDiff]
      simp only [b2i_0, Bool.not_eq_true, Bool.not_eq_false]
      simp only [inR_kn]
      simp only [show sI M 8 0 0 0 = z0 M from rfl, ← hN]
      by_cases h1 : isPl p0 = false
      · rw [if_pos (Or.inl h1)] at hS
        simp only [h1, Bool.false_eq_true, true_implies, false_implies, and_true]
        exact ⟨by decide, hS⟩
      by_cases h2 : isKN k = false
      · rw [if_pos (Or.inr h2)] at hS
        have h1' : isPl p0 = true := by simpa using h1
        simp only [h1', h2, Bool.true_eq_false, Bool.false_eq_true, true_implies, false_implies, true_and, and_true]
        exact ⟨by decide, hS⟩
      rw [if_neg (not_or.mpr ⟨h1, h2⟩)] at hS
      have h1' : isPl p0 = true := by simpa using h1
      have h2' : isKN k = true := by simpa using h2
      have hv := (isPl_in h1').1
      have h3 : ¬ mWay N (cl p0) 0 = 0 := by
        rcases hbad with q | q | q
        · exact absurd q h1
        · exact absurd q h2
        · exact q
      rw [if_pos h3] at hS
      simp only [h1', h2', Bool.true_eq_false, true_implies, false_implies, true_and]
      (repeat (first | refine And.intro hv ?_ | refine And.intro (by decide) ?_))
      exact ⟨fun q => absurd q h3, fun _ => hS⟩
    · simp only [not_or, Bool.not_eq_false, Decidable.not_not] at hbad
      obtain ⟨h1, h2, h3⟩ := hbad
      obtain ⟨hv, hp24⟩ := isPl_in h1
      have hc := hM.1 (cl p0) hp24
      have hc40 := mcnt_le hc
      rw [if_neg (by rw [h1, h2]; simp), if_neg (not_not_intro h3)] at hS
      have h91 : ∀ n, SO p l e rmX3_turn s m args below meth c 0 0 (MQ below (QI G cy dC dI post) args s 0 0 (AW G)) 7 (AW G) G cy dC dI 91 ((fun (n : Nat) (lv : LV) (st : List AV) (M' : MM) => ∃ i : Nat, i ≤ mcnt N (cl p0) ∧ n = mcnt N (cl p0) - i ∧ (∀ j, j < mcnt N (cl p0) → mCan N (40 * cl p0 + j) (N.1 9 0 (cl p0)) k = true) ∧ lv = [(0, .inr (8, 0)), (1, .inl (.int p0)), (2, .inl (.int k)), (4, .inl (.int (N.1 9 0 (cl p0)))), (5, .inl (.int (nI i)))] ∧ st = [] ∧ M' = m_ct N (cl p0) i k) n) := by
        refine SO_loop (fun K => BX3_turn_91 post (fun _ _ _ => False) K) (fun K hK => sBX3_turn_91 F hr hlk SO_no hK) (fun (n : Nat) (lv : LV) (st : List AV) (M' : MM) => ∃ i : Nat, i ≤ mcnt N (cl p0) ∧ n = mcnt N (cl p0) - i ∧ (∀ j, j < mcnt N (cl p0) → mCan N (40 * cl p0 + j) (N.1 9 0 (cl p0)) k = true) ∧ lv = [(0, .inr (8, 0)), (1, .inl (.int p0)), (2, .inl (.int k)), (4, .inl (.int (N.1 9 0 (cl p0)))), (5, .inl (.int (nI i)))] ∧ st = [] ∧ M' = m_ct N (cl p0) i k) ?_
        intro n lv st M' ⟨i, hi, hn, hf, e1, e2, e3⟩
        subst e1; subst e2; subst e3
        simp only [BX3_turn_0, BX3_turn_48, BX3_turn_91, BX3_turn_144, BX3_turn_174, i_push, i_iload, i_aload, i_istore, i_iinc, i_II, i_L, i_D, i_if, i_cmp, i_getR, i_putI, i_iald, i_lald, i_dald, i_iast, i_last, i_dast, i_call, i_callV, i_iret, i_cut, lk, wd, rm1, rm2, pick, popn, catS, pushO, aLV, cond_true, cond_false, Bool.not_true, Bool.not_false, Bool.and_true, Bool.and_false, Bool.true_and, Bool.false_and, eq_self, true_and, and_true, Nat.reduceBEq, Nat.reduceAdd, reduceIte, Nat.reduceEqDiff, SX3_canBe, SX3_in, SX3_isPlace, SX3_isWhole, SX3_way]
        try simp only [tCnt, aK, aN, aR, eq_self, true_and, and_true, Nat.reduceLeDiff, Nat.reduceEqDiff]
        simp only [mct_1, b2i_0]
        (repeat (first | refine And.intro hv ?_ | refine And.intro (by decide) ?_))
        refine ⟨fun c => ?_, fun c => ?_⟩
        · rw [mlt_cnt hc (by omega)] at c
          simp only [ix40n h1 (show i < 40 by omega), show (nI (40 * cl p0 + i)).toNatClampNeg = 40 * cl p0 + i from ncl (by omega)]
          have hvi := vin (n := 960) (i := 40 * cl p0 + i) (by omega) (by omega)
          by_cases r1 : N.1 9 0 (cl p0) < 5 <;> by_cases r2 : k < 5
          · simp only [r1, r2, hvi, not_true_eq_false, not_false_eq_true, false_implies, true_implies, implies_true, true_and, and_true]
            exact ⟨n - 1, by omega, i + 1, by omega, by omega, hf, by rw [nI_1], by rw [mct_id (by simp [r1, r2]), mct_id (by simp [r1, r2])]⟩
          · simp only [r1, r2, hvi, not_true_eq_false, not_false_eq_true, false_implies, true_implies, implies_true, true_and, and_true]
            (repeat (first | refine And.intro hvi ?_ | refine And.intro (by decide) ?_))
            exact ⟨n - 1, by omega, i + 1, by omega, by omega, hf, by rw [nI_1], mct_sD r1 r2⟩
          · simp only [r1, r2, hvi, not_true_eq_false, not_false_eq_true, false_implies, true_implies, implies_true, true_and, and_true]
            (repeat (first | refine And.intro hvi ?_ | refine And.intro (by decide) ?_))
            exact ⟨n - 1, by omega, i + 1, by omega, by omega, hf, by rw [nI_1], mct_sL r1 r2⟩
          · simp only [r1, r2, hvi, not_true_eq_false, not_false_eq_true, false_implies, true_implies, implies_true, true_and, and_true]
            exact ⟨n - 1, by omega, i + 1, by omega, by omega, hf, by rw [nI_1], by rw [mct_id (by simp [r1, r2]), mct_id (by simp [r1, r2])]⟩
        · rw [mlt_cnt hc (by omega)] at c
          rw [fst0_eq (fun i => mCan N (40 * cl p0 + i) (N.1 9 0 (cl p0)) k) (Nat.le_refl _) hf (Or.inl rfl), if_neg (Nat.lt_irrefl _)] at hS
          rw [show mcnt N (cl p0) = i by omega] at hS
          (repeat (first | refine And.intro hv ?_ | refine And.intro (by decide) ?_))
          exact hS
      have h48 : ∀ n, SO p l e rmX3_turn s m args below meth c 0 0 (MQ below (QI G cy dC dI post) args s 0 0 (AW G)) 7 (AW G) G cy dC dI 48 ((fun (n : Nat) (lv : LV) (st : List AV) (M' : MM) => ∃ i : Nat, i ≤ mcnt N (cl p0) ∧ n = mcnt N (cl p0) - i ∧ (∀ j, j < i → mCan N (40 * cl p0 + j) (N.1 9 0 (cl p0)) k = true) ∧ lv = [(0, .inr (8, 0)), (1, .inl (.int p0)), (2, .inl (.int k)), (4, .inl (.int (N.1 9 0 (cl p0)))), (5, .inl (.int (nI i)))] ∧ st = [] ∧ M' = N) n) := by
        refine SO_loop (fun K => BX3_turn_48 post K (fun lv st M' => ∃ n, (fun (n : Nat) (lv : LV) (st : List AV) (M' : MM) => ∃ i : Nat, i ≤ mcnt N (cl p0) ∧ n = mcnt N (cl p0) - i ∧ (∀ j, j < mcnt N (cl p0) → mCan N (40 * cl p0 + j) (N.1 9 0 (cl p0)) k = true) ∧ lv = [(0, .inr (8, 0)), (1, .inl (.int p0)), (2, .inl (.int k)), (4, .inl (.int (N.1 9 0 (cl p0)))), (5, .inl (.int (nI i)))] ∧ st = [] ∧ M' = m_ct N (cl p0) i k) n lv st M')) (fun K hK => sBX3_turn_48 F hr hlk hK (SO_or h91)) (fun (n : Nat) (lv : LV) (st : List AV) (M' : MM) => ∃ i : Nat, i ≤ mcnt N (cl p0) ∧ n = mcnt N (cl p0) - i ∧ (∀ j, j < i → mCan N (40 * cl p0 + j) (N.1 9 0 (cl p0)) k = true) ∧ lv = [(0, .inr (8, 0)), (1, .inl (.int p0)), (2, .inl (.int k)), (4, .inl (.int (N.1 9 0 (cl p0)))), (5, .inl (.int (nI i)))] ∧ st = [] ∧ M' = N) ?_
        intro n lv st M' ⟨i, hi, hn, hf, e1, e2, e3⟩
        subst e1; subst e2; subst e3
        simp only [BX3_turn_0, BX3_turn_48, BX3_turn_91, BX3_turn_144, BX3_turn_174, i_push, i_iload, i_aload, i_istore, i_iinc, i_II, i_L, i_D, i_if, i_cmp, i_getR, i_putI, i_iald, i_lald, i_dald, i_iast, i_last, i_dast, i_call, i_callV, i_iret, i_cut, lk, wd, rm1, rm2, pick, popn, catS, pushO, aLV, cond_true, cond_false, Bool.not_true, Bool.not_false, Bool.and_true, Bool.and_false, Bool.true_and, Bool.false_and, eq_self, true_and, and_true, Nat.reduceBEq, Nat.reduceAdd, reduceIte, Nat.reduceEqDiff, SX3_canBe, SX3_in, SX3_isPlace, SX3_isWhole, SX3_way]
        try simp only [tCnt, aK, aN, aR, eq_self, true_and, and_true, Nat.reduceLeDiff, Nat.reduceEqDiff]
        (repeat (first | refine And.intro hv ?_ | refine And.intro (by decide) ?_))
        refine ⟨fun c => ?_, fun c => ?_⟩
        · rw [mlt_cnt hc (by omega)] at c
          simp only [b2i_0]
          simp only [ix40n h1 (show i < 40 by omega), show cl (nI (40 * cl p0 + i)) = 40 * cl p0 + i from ncl (by omega)]
          have hvi := vin (n := 960) (i := 40 * cl p0 + i) (by omega) (by omega)
          have hg := hM.2.1 (40 * cl p0 + i)
          (repeat (first | refine And.intro hvi ?_ | refine And.intro hg ?_ | refine And.intro (by decide) ?_))
          refine ⟨fun c2 => ?_, fun c2 => ?_⟩
          · have c2' : mCan M' (40 * cl p0 + i) (M'.1 9 0 (cl p0)) k = false := by simpa using c2
            rw [fst0_eq (fun i => mCan M' (40 * cl p0 + i) (M'.1 9 0 (cl p0)) k) hi hf (Or.inr c2'), if_pos c] at hS
            exact hS
          · have c2' : mCan M' (40 * cl p0 + i) (M'.1 9 0 (cl p0)) k = true := by simpa using c2
            exact ⟨n - 1, by omega, i + 1, by omega, by omega, fun j hj => (if e : j = i then by rw [e]; exact c2' else hf j (by omega)), by rw [nI_1]⟩
        · rw [mlt_cnt hc (by omega)] at c
          exact ⟨mcnt M' (cl p0), 0, by omega, by omega, fun j hj => hf j (by omega), rfl, (mct_0 _ _ _).symm⟩
      refine ⟨by simp only [lk, wd, rm1, rm2, pick, popn, catS, pushO, aLV, cond_true, cond_false, Bool.not_true, Bool.not_false, Bool.and_true, Bool.and_false, Bool.true_and, Bool.false_and, eq_self, true_and, and_true, Nat.reduceBEq, Nat.reduceAdd, reduceIte, Nat.reduceEqDiff]; decide, sBX3_turn_0 F hr hlk (SO_or h48) (SO_or h91) _ _ _ ?_⟩
      simp only [BX3_turn_0, BX3_turn_48, BX3_turn_91, BX3_turn_144, BX3_turn_174, i_push, i_iload, i_aload, i_istore, i_iinc, i_II, i_L, i_D, i_if, i_cmp, i_getR, i_putI, i_iald, i_lald, i_dald, i_iast, i_last, i_dast, i_call, i_callV, i_iret, i_cut, lk, wd, rm1, rm2, pick, popn, catS, pushO, aLV, cond_true, cond_false, Bool.not_true, Bool.not_false, Bool.and_true, Bool.and_false, Bool.true_and, Bool.false_and, eq_self, true_and, and_true, Nat.reduceBEq, Nat.reduceAdd, reduceIte, Nat.reduceEqDiff, SX3_canBe, SX3_in, SX3_isPlace, SX3_isWhole, SX3_way]
      try simp only [tCnt, aK, aN, aR, eq_self, true_and, and_true, Nat.reduceLeDiff, Nat.reduceEqDiff]
      simp only [b2i_0, Bool.not_eq_true, Bool.not_eq_false]
      simp only [inR_kn]
      simp only [show sI M 8 0 0 0 = z0 M from rfl, ← hN]
      simp only [h1, h2, h3, Bool.true_eq_false, not_true_eq_false, true_implies, false_implies, true_and, and_true]
      (repeat (first | refine And.intro hv ?_ | refine And.intro (by decide) ?_))
      exact ⟨mcnt N (cl p0), 0, by omega, by omega, fun j hj => absurd hj (Nat.not_lt_zero j), by first | exact ⟨rfl, trivial⟩ | exact ⟨rfl, rfl⟩ | rfl⟩
  · exact hS.elim
