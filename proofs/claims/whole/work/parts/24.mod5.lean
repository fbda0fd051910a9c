def mE (N : MM) (a b i : Nat) : Bool := if isR (N.1 9 0 a) then decide (Op.cmpValue (FP.dcmp (N.2.2 13 0 (40 * a + i)) (N.2.2 13 0 (40 * b + i))) .l = 0) else decide (lg_cmp (N.2.1 12 0 (40 * a + i)) (N.2.1 12 0 (40 * b + i)) = 0)
def m_like (N : MM) (a b : Int32) : Int32 := if isPl a = false ∨ isPl b = false then -1 else if mNone N (cl a) = true ∨ mNone N (cl b) = true then -11 else b2i (N.1 9 0 (cl a) = N.1 9 0 (cl b) ∧ N.1 10 0 (cl a) = N.1 10 0 (cl b) ∧ fst0 (mE N (cl a) (cl b)) (mcnt N (cl a)) = mcnt N (cl a))
theorem isR_5 {k : Int32} (h : k = 5) : isR k = true := by rw [h]; rfl
theorem isR_6 {k : Int32} (h : k = 6) : isR k = true := by rw [h]; rfl
theorem isR_n {k : Int32} (h5 : ¬ k = 5) (h6 : ¬ k = 6) : isR k = false := by unfold isR; simp [h5, h6]

def SX3_like : SP := fun as M post => match as with
  | [.inr (t, i0), .inl (.int p0), .inl (.int p1)] => t = 8 ∧ i0 = 0 ∧ MOK (z0 M) ∧ post (some (.inl (.int (m_like (z0 M) p0 p1)))) (z0 M)
  | _ => False
abbrev rmX3_like : Room := ({ frames := 2, cells := 0, slots := 0, locals := 120 } : Room)
def BX3_like_203 (Qr : Option AV → MM → Prop) (K79 : PT) (lv : LV) (st : List AV) (M : MM) : Prop := (i_iload 3 (i_if (fun a => a = 0) (i_push (.inl (.int 0)) (i_iret Qr)) (i_push (.inl (.int 1)) (i_iret Qr)))) lv st M
set_option maxRecDepth 100000 in
set_option maxHeartbeats 4000000 in
theorem sBX3_like_203 {p : Program} {l : Launch} {e : Env} {s : State} {m : MethodId} {args : Array Value} {below : List Frame} {meth : Method} {c : Code} {G : Nat → Nat → Nat} {cy dC : Nat → ClassId} {dI : Nat → Nat → Nat} {Qr : Option AV → MM → Prop} {K79 : PT} (F : FX p m c cX3_like 6 RX3 s args (AW G) G cy dC dI) (hr : meth.sig.returnType = (some .int)) (hlk : meth.locks = false) (h79 : SO p l e rmX3_like s m args below meth c 0 0 (MQ below (QI G cy dC dI Qr) args s 0 0 (AW G)) 6 (AW G) G cy dC dI 79 K79) : SO p l e rmX3_like s m args below meth c 0 0 (MQ below (QI G cy dC dI Qr) args s 0 0 (AW G)) 6 (AW G) G cy dC dI 203 (BX3_like_203 Qr K79) := by
  exact (s_iload_n F dX3_like_203 rfl (s_if_eq F dX3_like_204 (by decide) (s_iconst F dX3_like_211 (by decide) (s_iret F dX3_like_212 hr hlk)) (s_iconst F dX3_like_207 (by decide) (s_goto F dX3_like_208 (by decide) (s_iret F dX3_like_212 hr hlk)))))
def BX3_like_196 (Qr : Option AV → MM → Prop) (K79 : PT) (lv : LV) (st : List AV) (M : MM) : Prop := (i_istore 3 (i_iinc 4 1 (i_cut [0, 1, 2, 3, 4] K79))) lv st M
set_option maxRecDepth 100000 in
set_option maxHeartbeats 4000000 in
theorem sBX3_like_196 {p : Program} {l : Launch} {e : Env} {s : State} {m : MethodId} {args : Array Value} {below : List Frame} {meth : Method} {c : Code} {G : Nat → Nat → Nat} {cy dC : Nat → ClassId} {dI : Nat → Nat → Nat} {Qr : Option AV → MM → Prop} {K79 : PT} (F : FX p m c cX3_like 6 RX3 s args (AW G) G cy dC dI) (hr : meth.sig.returnType = (some .int)) (hlk : meth.locks = false) (h79 : SO p l e rmX3_like s m args below meth c 0 0 (MQ below (QI G cy dC dI Qr) args s 0 0 (AW G)) 6 (AW G) G cy dC dI 79 K79) : SO p l e rmX3_like s m args below meth c 0 0 (MQ below (QI G cy dC dI Qr) args s 0 0 (AW G)) 6 (AW G) G cy dC dI 196 (BX3_like_196 Qr K79) := by
  exact (s_istore_n F dX3_like_196 rfl (by decide) (s_iinc F dX3_like_197 (by decide) (by decide) (s_goto F dX3_like_200 (by decide) (s_cut [0, 1, 2, 3, 4] h79))))
def BX3_like_120 (Qr : Option AV → MM → Prop) (K79 : PT) (lv : LV) (st : List AV) (M : MM) : Prop := (i_istore 5 (i_iload 5 (i_if (fun a => a = 0) (i_aload 0 (i_getR 8 12 (fun _ => 0) (i_push (.inl (.int 40)) (i_iload 1 (i_II (fun a b => a * b) (i_iload 4 (i_II (fun a b => a + b) (i_lald (i_aload 0 (i_getR 8 12 (fun _ => 0) (i_push (.inl (.int 40)) (i_iload 2 (i_II (fun a b => a * b) (i_iload 4 (i_II (fun a b => a + b) (i_lald (i_lcmp (i_if (fun a => a = 0) (i_push (.inl (.int 1)) (i_cut [0, 1, 2, 4] (BX3_like_196 Qr K79))) (i_push (.inl (.int 0)) (i_cut [0, 1, 2, 4] (BX3_like_196 Qr K79))))))))))))))))))))) (i_aload 0 (i_getR 8 13 (fun _ => 0) (i_push (.inl (.int 40)) (i_iload 1 (i_II (fun a b => a * b) (i_iload 4 (i_II (fun a b => a + b) (i_dald (i_aload 0 (i_getR 8 13 (fun _ => 0) (i_push (.inl (.int 40)) (i_iload 2 (i_II (fun a b => a * b) (i_iload 4 (i_II (fun a b => a + b) (i_dald (i_dcmp .l (i_if (fun a => a = 0) (i_push (.inl (.int 1)) (i_cut [0, 1, 2, 4] (BX3_like_196 Qr K79))) (i_push (.inl (.int 0)) (i_cut [0, 1, 2, 4] (BX3_like_196 Qr K79)))))))))))))))))))))))) lv st M
set_option maxRecDepth 100000 in
set_option maxHeartbeats 4000000 in
theorem sBX3_like_120 {p : Program} {l : Launch} {e : Env} {s : State} {m : MethodId} {args : Array Value} {below : List Frame} {meth : Method} {c : Code} {G : Nat → Nat → Nat} {cy dC : Nat → ClassId} {dI : Nat → Nat → Nat} {Qr : Option AV → MM → Prop} {K79 : PT} (F : FX p m c cX3_like 6 RX3 s args (AW G) G cy dC dI) (hr : meth.sig.returnType = (some .int)) (hlk : meth.locks = false) (h79 : SO p l e rmX3_like s m args below meth c 0 0 (MQ below (QI G cy dC dI Qr) args s 0 0 (AW G)) 6 (AW G) G cy dC dI 79 K79) : SO p l e rmX3_like s m args below meth c 0 0 (MQ below (QI G cy dC dI Qr) args s 0 0 (AW G)) 6 (AW G) G cy dC dI 120 (BX3_like_120 Qr K79) := by
  exact (s_istore F dX3_like_120 (by decide) (s_iload F dX3_like_122 (s_if_eq F dX3_like_124 (by decide) (s_aload_n F dX3_like_163 rfl (s_getR F (ci := 3) (f := 4) dX3_like_164 rfl in_X3 (by decide) q471 (fun _ _ _ _ => ⟨_, rfl, rfl⟩) (s_bipush F dX3_like_167 (by decide) (s_iload_n F dX3_like_169 rfl (s_imul F dX3_like_170 (s_iload F dX3_like_171 (s_iadd F dX3_like_173 (s_lald F dX3_like_174 (s_aload_n F dX3_like_175 rfl (s_getR F (ci := 3) (f := 4) dX3_like_176 rfl in_X3 (by decide) q471 (fun _ _ _ _ => ⟨_, rfl, rfl⟩) (s_bipush F dX3_like_179 (by decide) (s_iload_n F dX3_like_181 rfl (s_imul F dX3_like_182 (s_iload F dX3_like_183 (s_iadd F dX3_like_185 (s_lald F dX3_like_186 (s_lcmp F dX3_like_187 (s_if_ne F dX3_like_188 (by decide) (s_iconst F dX3_like_195 (by decide) (s_cut [0, 1, 2, 4] (sBX3_like_196 F hr hlk h79))) (s_iconst F dX3_like_191 (by decide) (s_goto F dX3_like_192 (by decide) (s_cut [0, 1, 2, 4] (sBX3_like_196 F hr hlk h79)))))))))))))))))))))) (s_aload_n F dX3_like_127 rfl (s_getR F (ci := 3) (f := 5) dX3_like_128 rfl in_X3 (by decide) q472 (fun _ _ _ _ => ⟨_, rfl, rfl⟩) (s_bipush F dX3_like_131 (by decide) (s_iload_n F dX3_like_133 rfl (s_imul F dX3_like_134 (s_iload F dX3_like_135 (s_iadd F dX3_like_137 (s_dald F dX3_like_138 (s_aload_n F dX3_like_139 rfl (s_getR F (ci := 3) (f := 5) dX3_like_140 rfl in_X3 (by decide) q472 (fun _ _ _ _ => ⟨_, rfl, rfl⟩) (s_bipush F dX3_like_143 (by decide) (s_iload_n F dX3_like_145 rfl (s_imul F dX3_like_146 (s_iload F dX3_like_147 (s_iadd F dX3_like_149 (s_dald F dX3_like_150 (s_dcmp F dX3_like_151 (s_if_ne F dX3_like_152 (by decide) (s_iconst F dX3_like_159 (by decide) (s_goto F dX3_like_160 (by decide) (s_cut [0, 1, 2, 4] (sBX3_like_196 F hr hlk h79)))) (s_iconst F dX3_like_155 (by decide) (s_goto F dX3_like_156 (by decide) (s_cut [0, 1, 2, 4] (sBX3_like_196 F hr hlk h79)))))))))))))))))))))))))
def BX3_like_115 (Qr : Option AV → MM → Prop) (K79 : PT) (lv : LV) (st : List AV) (M : MM) : Prop := (i_push (.inl (.int 1)) (i_cut [0, 1, 2, 4] (BX3_like_120 Qr K79))) lv st M
set_option maxRecDepth 100000 in
set_option maxHeartbeats 4000000 in
theorem sBX3_like_115 {p : Program} {l : Launch} {e : Env} {s : State} {m : MethodId} {args : Array Value} {below : List Frame} {meth : Method} {c : Code} {G : Nat → Nat → Nat} {cy dC : Nat → ClassId} {dI : Nat → Nat → Nat} {Qr : Option AV → MM → Prop} {K79 : PT} (F : FX p m c cX3_like 6 RX3 s args (AW G) G cy dC dI) (hr : meth.sig.returnType = (some .int)) (hlk : meth.locks = false) (h79 : SO p l e rmX3_like s m args below meth c 0 0 (MQ below (QI G cy dC dI Qr) args s 0 0 (AW G)) 6 (AW G) G cy dC dI 79 K79) : SO p l e rmX3_like s m args below meth c 0 0 (MQ below (QI G cy dC dI Qr) args s 0 0 (AW G)) 6 (AW G) G cy dC dI 115 (BX3_like_115 Qr K79) := by
  exact (s_iconst F dX3_like_115 (by decide) (s_goto F dX3_like_116 (by decide) (s_cut [0, 1, 2, 4] (sBX3_like_120 F hr hlk h79))))
def BX3_like_79 (Qr : Option AV → MM → Prop) (K79 : PT) (lv : LV) (st : List AV) (M : MM) : Prop := (i_iload 4 (i_aload 0 (i_getR 8 10 (fun _ => 0) (i_iload 1 (i_iald 0 (i_cmp (fun a b => a < b) (i_iload 3 (i_if (fun a => a = 0) (i_cut [3] (BX3_like_203 Qr K79)) (i_aload 0 (i_getR 8 9 (fun _ => 0) (i_iload 1 (i_iald 0 (i_push (.inl (.int 5)) (i_cmp (fun a b => a = b) (i_cut [0, 1, 2, 4] (BX3_like_115 Qr K79)) (i_aload 0 (i_getR 8 9 (fun _ => 0) (i_iload 1 (i_iald 0 (i_push (.inl (.int 6)) (i_cmp (fun a b => a = b) (i_cut [0, 1, 2, 4] (BX3_like_115 Qr K79)) (i_push (.inl (.int 0)) (i_cut [0, 1, 2, 4] (BX3_like_120 Qr K79))))))))))))))))) (i_cut [3] (BX3_like_203 Qr K79)))))))) lv st M
set_option maxRecDepth 100000 in
set_option maxHeartbeats 4000000 in
theorem sBX3_like_79 {p : Program} {l : Launch} {e : Env} {s : State} {m : MethodId} {args : Array Value} {below : List Frame} {meth : Method} {c : Code} {G : Nat → Nat → Nat} {cy dC : Nat → ClassId} {dI : Nat → Nat → Nat} {Qr : Option AV → MM → Prop} {K79 : PT} (F : FX p m c cX3_like 6 RX3 s args (AW G) G cy dC dI) (hr : meth.sig.returnType = (some .int)) (hlk : meth.locks = false) (h79 : SO p l e rmX3_like s m args below meth c 0 0 (MQ below (QI G cy dC dI Qr) args s 0 0 (AW G)) 6 (AW G) G cy dC dI 79 K79) : SO p l e rmX3_like s m args below meth c 0 0 (MQ below (QI G cy dC dI Qr) args s 0 0 (AW G)) 6 (AW G) G cy dC dI 79 (BX3_like_79 Qr K79) := by
  exact (s_iload F dX3_like_79 (s_aload_n F dX3_like_81 rfl (s_getR F (ci := 3) (f := 2) dX3_like_82 rfl in_X3 (by decide) q469 (fun _ _ _ _ => ⟨_, rfl, rfl⟩) (s_iload_n F dX3_like_85 rfl (s_iald F dX3_like_86 (s_icmp_ge F dX3_like_87 (by decide) (s_cut [3] (sBX3_like_203 F hr hlk h79)) (s_iload_n F dX3_like_90 rfl (s_if_eq F dX3_like_91 (by decide) (s_cut [3] (sBX3_like_203 F hr hlk h79)) (s_aload_n F dX3_like_94 rfl (s_getR F (ci := 3) (f := 1) dX3_like_95 rfl in_X3 (by decide) q468 (fun _ _ _ _ => ⟨_, rfl, rfl⟩) (s_iload_n F dX3_like_98 rfl (s_iald F dX3_like_99 (s_iconst F dX3_like_100 (by decide) (s_icmp_eq F dX3_like_101 (by decide) (s_cut [0, 1, 2, 4] (sBX3_like_115 F hr hlk h79)) (s_aload_n F dX3_like_104 rfl (s_getR F (ci := 3) (f := 1) dX3_like_105 rfl in_X3 (by decide) q468 (fun _ _ _ _ => ⟨_, rfl, rfl⟩) (s_iload_n F dX3_like_108 rfl (s_iald F dX3_like_109 (s_bipush F dX3_like_110 (by decide) (s_icmp_ne F dX3_like_112 (by decide) (s_iconst F dX3_like_119 (by decide) (s_cut [0, 1, 2, 4] (sBX3_like_120 F hr hlk h79))) (s_cut [0, 1, 2, 4] (sBX3_like_115 F hr hlk h79))))))))))))))))))))))
def BX3_like_75 (Qr : Option AV → MM → Prop) (K79 : PT) (lv : LV) (st : List AV) (M : MM) : Prop := (i_istore 3 (i_push (.inl (.int 0)) (i_istore 4 (i_cut [0, 1, 2, 3, 4] K79)))) lv st M
set_option maxRecDepth 100000 in
set_option maxHeartbeats 4000000 in
theorem sBX3_like_75 {p : Program} {l : Launch} {e : Env} {s : State} {m : MethodId} {args : Array Value} {below : List Frame} {meth : Method} {c : Code} {G : Nat → Nat → Nat} {cy dC : Nat → ClassId} {dI : Nat → Nat → Nat} {Qr : Option AV → MM → Prop} {K79 : PT} (F : FX p m c cX3_like 6 RX3 s args (AW G) G cy dC dI) (hr : meth.sig.returnType = (some .int)) (hlk : meth.locks = false) (h79 : SO p l e rmX3_like s m args below meth c 0 0 (MQ below (QI G cy dC dI Qr) args s 0 0 (AW G)) 6 (AW G) G cy dC dI 79 K79) : SO p l e rmX3_like s m args below meth c 0 0 (MQ below (QI G cy dC dI Qr) args s 0 0 (AW G)) 6 (AW G) G cy dC dI 75 (BX3_like_75 Qr K79) := by
  exact (s_istore_n F dX3_like_75 rfl (by decide) (s_iconst F dX3_like_76 (by decide) (s_istore F dX3_like_77 (by decide) (s_cut [0, 1, 2, 3, 4] h79))))
def BX3_like_74 (Qr : Option AV → MM → Prop) (K79 : PT) (lv : LV) (st : List AV) (M : MM) : Prop := (i_push (.inl (.int 0)) (i_cut [0, 1, 2] (BX3_like_75 Qr K79))) lv st M
set_option maxRecDepth 100000 in
set_option maxHeartbeats 4000000 in
theorem sBX3_like_74 {p : Program} {l : Launch} {e : Env} {s : State} {m : MethodId} {args : Array Value} {below : List Frame} {meth : Method} {c : Code} {G : Nat → Nat → Nat} {cy dC : Nat → ClassId} {dI : Nat → Nat → Nat} {Qr : Option AV → MM → Prop} {K79 : PT} (F : FX p m c cX3_like 6 RX3 s args (AW G) G cy dC dI) (hr : meth.sig.returnType = (some .int)) (hlk : meth.locks = false) (h79 : SO p l e rmX3_like s m args below meth c 0 0 (MQ below (QI G cy dC dI Qr) args s 0 0 (AW G)) 6 (AW G) G cy dC dI 79 K79) : SO p l e rmX3_like s m args below meth c 0 0 (MQ below (QI G cy dC dI Qr) args s 0 0 (AW G)) 6 (AW G) G cy dC dI 74 (BX3_like_74 Qr K79) := by
  exact (s_iconst F dX3_like_74 (by decide) (s_cut [0, 1, 2] (sBX3_like_75 F hr hlk h79)))
def BX3_like_0 (Qr : Option AV → MM → Prop) (K79 : PT) (lv : LV) (st : List AV) (M : MM) : Prop := (i_aload 0 (i_push (.inl (.int 0)) (i_putI 8 0 (i_iload 1 (i_call 1 SX3_isPlace (i_if (fun a => a = 0) (i_push (.inl (.int (-1))) (i_iret Qr)) (i_iload 2 (i_call 1 SX3_isPlace (i_if (fun a => a = 0) (i_push (.inl (.int (-1))) (i_iret Qr)) (i_aload 0 (i_iload 1 (i_callV 1 8 SX3_isNone (i_if (fun a => a = 0) (i_aload 0 (i_iload 2 (i_callV 1 8 SX3_isNone (i_if (fun a => a = 0) (i_aload 0 (i_getR 8 9 (fun _ => 0) (i_iload 1 (i_iald 0 (i_aload 0 (i_getR 8 9 (fun _ => 0) (i_iload 2 (i_iald 0 (i_cmp (fun a b => a = b) (i_aload 0 (i_getR 8 10 (fun _ => 0) (i_iload 1 (i_iald 0 (i_aload 0 (i_getR 8 10 (fun _ => 0) (i_iload 2 (i_iald 0 (i_cmp (fun a b => a = b) (i_push (.inl (.int 1)) (i_cut [0, 1, 2] (BX3_like_75 Qr K79))) (i_cut [0, 1, 2] (BX3_like_74 Qr K79))))))))))) (i_cut [0, 1, 2] (BX3_like_74 Qr K79))))))))))) (i_push (.inl (.int (-11))) (i_iret Qr)))))) (i_push (.inl (.int (-11))) (i_iret Qr))))))))))))))) lv st M
set_option maxRecDepth 100000 in
set_option maxHeartbeats 4000000 in
theorem sBX3_like_0 {p : Program} {l : Launch} {e : Env} {s : State} {m : MethodId} {args : Array Value} {below : List Frame} {meth : Method} {c : Code} {G : Nat → Nat → Nat} {cy dC : Nat → ClassId} {dI : Nat → Nat → Nat} {Qr : Option AV → MM → Prop} {K79 : PT} (F : FX p m c cX3_like 6 RX3 s args (AW G) G cy dC dI) (hr : meth.sig.returnType = (some .int)) (hlk : meth.locks = false) (h79 : SO p l e rmX3_like s m args below meth c 0 0 (MQ below (QI G cy dC dI Qr) args s 0 0 (AW G)) 6 (AW G) G cy dC dI 79 K79) : SO p l e rmX3_like s m args below meth c 0 0 (MQ below (QI G cy dC dI Qr) args s 0 0 (AW G)) 6 (AW G) G cy dC dI 0 (BX3_like_0 Qr K79) := by
  exact (s_aload_n F dX3_like_0 rfl (s_iconst F dX3_like_1 (by decide) (s_putI F (ci := 3) dX3_like_2 rfl in_X3 tyX3 tyX3_ok nmX3 (by decide) q467 rfl (by decide +kernel) (fun _ _ _ _ _ => ⟨_, rfl, Nat.le_of_ble_eq_true rfl, rfl⟩) (s_iload_n F dX3_like_5 rfl (s_callSi F dX3_like_6 (ctX3_isPlace l) (lw_S q529 q530 q4 q531) ⟨rfl, rfl⟩ (by decide +kernel) (by decide) ⟨Nat.zero_le _, Nat.zero_le _⟩ (s_if_eq F dX3_like_9 (by decide) (s_iconst F dX3_like_19 (by decide) (s_iret F dX3_like_20 hr hlk)) (s_iload_n F dX3_like_12 rfl (s_callSi F dX3_like_13 (ctX3_isPlace l) (lw_S q529 q530 q4 q531) ⟨rfl, rfl⟩ (by decide +kernel) (by decide) ⟨Nat.zero_le _, Nat.zero_le _⟩ (s_if_ne F dX3_like_16 (by decide) (s_aload_n F dX3_like_21 rfl (s_iload_n F dX3_like_22 rfl (s_callVi F dX3_like_23 (ctX3_isNone l) (lw_V q540 q542 qs11 q4 q543) ⟨rfl, rfl⟩ (by decide +kernel) (by decide) ⟨Nat.zero_le _, Nat.zero_le _⟩ (ci := 3) rfl (fun _ _ _ _ => ⟨_, rfl⟩) (s_if_ne F dX3_like_26 (by decide) (s_bipush F dX3_like_37 (by decide) (s_iret F dX3_like_39 hr hlk)) (s_aload_n F dX3_like_29 rfl (s_iload_n F dX3_like_30 rfl (s_callVi F dX3_like_31 (ctX3_isNone l) (lw_V q540 q542 qs11 q4 q543) ⟨rfl, rfl⟩ (by decide +kernel) (by decide) ⟨Nat.zero_le _, Nat.zero_le _⟩ (ci := 3) rfl (fun _ _ _ _ => ⟨_, rfl⟩) (s_if_eq F dX3_like_34 (by decide) (s_aload_n F dX3_like_40 rfl (s_getR F (ci := 3) (f := 1) dX3_like_41 rfl in_X3 (by decide) q468 (fun _ _ _ _ => ⟨_, rfl, rfl⟩) (s_iload_n F dX3_like_44 rfl (s_iald F dX3_like_45 (s_aload_n F dX3_like_46 rfl (s_getR F (ci := 3) (f := 1) dX3_like_47 rfl in_X3 (by decide) q468 (fun _ _ _ _ => ⟨_, rfl, rfl⟩) (s_iload_n F dX3_like_50 rfl (s_iald F dX3_like_51 (s_icmp_ne F dX3_like_52 (by decide) (s_cut [0, 1, 2] (sBX3_like_74 F hr hlk h79)) (s_aload_n F dX3_like_55 rfl (s_getR F (ci := 3) (f := 2) dX3_like_56 rfl in_X3 (by decide) q469 (fun _ _ _ _ => ⟨_, rfl, rfl⟩) (s_iload_n F dX3_like_59 rfl (s_iald F dX3_like_60 (s_aload_n F dX3_like_61 rfl (s_getR F (ci := 3) (f := 2) dX3_like_62 rfl in_X3 (by decide) q469 (fun _ _ _ _ => ⟨_, rfl, rfl⟩) (s_iload_n F dX3_like_65 rfl (s_iald F dX3_like_66 (s_icmp_ne F dX3_like_67 (by decide) (s_cut [0, 1, 2] (sBX3_like_74 F hr hlk h79)) (s_iconst F dX3_like_70 (by decide) (s_goto F dX3_like_71 (by decide) (s_cut [0, 1, 2] (sBX3_like_75 F hr hlk h79)))))))))))))))))))))) (s_bipush F dX3_like_37 (by decide) (s_iret F dX3_like_39 hr hlk)))))))))) (s_iconst F dX3_like_19 (by decide) (s_iret F dX3_like_20 hr hlk)))))))))))
set_option maxRecDepth 100000 in
set_option maxHeartbeats 4000000 in
theorem ctX3_like (l : Launch) : CI l yX3_like (ws_ yX3_like cX3_like 6 (some .int)) rmX3_like SX3_like := by
  refine mk_CI (by decide) ?_
  intro p e s m args below meth c G cy dC dI F hr hlk as M post hS
  unfold SX3_like at hS
  split at hS
  · rename_i t i0 p0 p1
    obtain ⟨rfl, rfl, hM, hS⟩ := hS
    by_cases hbad : isPl p0 = false ∨ isPl p1 = false ∨ mNone (z0 M) (cl p0) = true ∨ mNone (z0 M) (cl p1) = true
    · refine ⟨by simp only [lk, wd, rm1, rm2, pick, popn, catS, pushO, aLV, cond_true, cond_false, Bool.not_true, Bool.not_false, Bool.and_true, Bool.and_false, Bool.true_and, Bool.false_and, eq_self, true_and, and_true, Nat.reduceBEq, Nat.reduceAdd, reduceIte, Nat.reduceEqDiff]; decide, sBX3_like_0 F hr hlk SO_no _ _ _ ?_⟩
      simp only [BX3_like_0, BX3_like_74, BX3_like_75, BX3_like_79, BX3_like_115, BX3_like_120, BX3_like_196, BX3_like_203, i_push, i_iload, i_aload, i_istore, i_iinc, i_II, i_lcmp, i_dcmp, i_if, i_cmp, i_getR, i_putI, i_iald, i_lald, i_dald, i_call, i_callV, i_iret, i_cut, lk, wd, rm1, rm2, pick, popn, catS, pushO, aLV, cond_true, cond_false, Bool.not_true, Bool.not_false, Bool.and_true, Bool.and_false, Bool.true_and, Bool.false_and, eq_self, true_and, and_true, Nat.reduceBEq, Nat.reduceAdd, reduceIte, Nat.reduceEqDiff, SX3_isNone, SX3_isPlace]
      try simp only [tCnt, aK, aN, aR, eq_self, true_and, and_true, Nat.reduceLeDiff, Nat.reduceEqDiff]
      simp only [b2i_0, Bool.not_eq_true, Bool.not_eq_false]
      simp only [show sI M 8 0 0 0 = z0 M from rfl]
      generalize z0 M = N at hS hbad hM ⊢
      unfold m_like at hS
      by_cases h1 : isPl p0 = false
      · rw [if_pos (Or.inl h1)] at hS
        simp only [h1, Bool.false_eq_true, true_implies, false_implies, and_true]
        exact ⟨by decide, hS⟩
      by_cases h2 : isPl p1 = false
      · rw [if_pos (Or.inr h2)] at hS
        have h1' : isPl p0 = true := by simpa using h1
        simp only [h1', h2, Bool.true_eq_false, Bool.false_eq_true, true_implies, false_implies, true_and, and_true]
        exact ⟨by decide, hS⟩
      rw [if_neg (not_or.mpr ⟨h1, h2⟩)] at hS
      have h1' : isPl p0 = true := by simpa using h1
      have h2' : isPl p1 = true := by simpa using h2
      have hv1 := (isPl_in h1').1
      have hv2 := (isPl_in h2').1
      simp only [h1', h2', Bool.true_eq_false, true_implies, false_implies, true_and]
      (repeat (first | refine And.intro hv1 ?_ | refine And.intro hv2 ?_ | refine And.intro (by decide) ?_))
      by_cases h3 : mNone N (cl p0) = true
      · rw [if_pos (Or.inl h3)] at hS
        exact ⟨fun q => absurd (q.symm.trans h3) (by decide), fun _ => hS⟩
      · have h4 : mNone N (cl p1) = true := by
          rcases hbad with q | q | q | q
          · exact absurd q h1
          · exact absurd q h2
          · exact absurd q h3
          · exact q
        rw [if_pos (Or.inr h4)] at hS
        refine ⟨fun _ => ?_, fun _ => hS⟩
        (repeat (first | refine And.intro hv1 ?_ | refine And.intro hv2 ?_ | refine And.intro (by decide) ?_))
        exact ⟨fun q => absurd (q.symm.trans h4) (by decide), fun _ => hS⟩
    · simp only [not_or, Bool.not_eq_false, Bool.not_eq_true] at hbad
      obtain ⟨h1, h2, h3, h4⟩ := hbad
      obtain ⟨hv1, hp24⟩ := isPl_in h1
      obtain ⟨hv2, hq24⟩ := isPl_in h2
      have hc := hM.1 (cl p0) hp24
      have hc40 := mcnt_le hc
      have hx : m_like (z0 M) p0 p1 = b2i ((z0 M).1 9 0 (cl p0) = (z0 M).1 9 0 (cl p1) ∧ (z0 M).1 10 0 (cl p0) = (z0 M).1 10 0 (cl p1) ∧ fst0 (mE (z0 M) (cl p0) (cl p1)) (mcnt (z0 M) (cl p0)) = mcnt (z0 M) (cl p0)) := by
        unfold m_like
        rw [if_neg (by rw [h1, h2]; simp), if_neg (by rw [h3, h4]; simp)]
      rw [hx] at hS
      have hN : ∃ N, N = z0 M := ⟨_, rfl⟩
      obtain ⟨N, hN⟩ := hN
      simp only [← hN] at hS
      rw [← hN] at h3 h4 hc hc40 hM
      have hL : ∀ n, SO p l e rmX3_like s m args below meth c 0 0 (MQ below (QI G cy dC dI post) args s 0 0 (AW G)) 6 (AW G) G cy dC dI 79 ((fun (n : Nat) (lv : LV) (st : List AV) (M' : MM) => ∃ (i : Nat) (sm : Int32), i ≤ mcnt N (cl p0) ∧ n = mcnt N (cl p0) - i ∧ lv = [(0, .inr (8, 0)), (1, .inl (.int p0)), (2, .inl (.int p1)), (3, .inl (.int sm)), (4, .inl (.int (nI i)))] ∧ st = [] ∧ M' = N ∧ (sm = 1 ∧ N.1 9 0 (cl p0) = N.1 9 0 (cl p1) ∧ N.1 10 0 (cl p0) = N.1 10 0 (cl p1) ∧ (∀ j, j < i → mE N (cl p0) (cl p1) j = true) ∨ sm = 0 ∧ post (some (.inl (.int 0))) N)) n) := by
        refine SO_loop (fun K => BX3_like_79 post K) (fun K hK => sBX3_like_79 F hr hlk hK) (fun (n : Nat) (lv : LV) (st : List AV) (M' : MM) => ∃ (i : Nat) (sm : Int32), i ≤ mcnt N (cl p0) ∧ n = mcnt N (cl p0) - i ∧ lv = [(0, .inr (8, 0)), (1, .inl (.int p0)), (2, .inl (.int p1)), (3, .inl (.int sm)), (4, .inl (.int (nI i)))] ∧ st = [] ∧ M' = N ∧ (sm = 1 ∧ N.1 9 0 (cl p0) = N.1 9 0 (cl p1) ∧ N.1 10 0 (cl p0) = N.1 10 0 (cl p1) ∧ (∀ j, j < i → mE N (cl p0) (cl p1) j = true) ∨ sm = 0 ∧ post (some (.inl (.int 0))) N)) ?_
        intro n lv st M' ⟨i, sm, hi, hn, e1, e2, e3, hsm⟩
        subst e1; subst e2; subst e3
        simp only [BX3_like_0, BX3_like_74, BX3_like_75, BX3_like_79, BX3_like_115, BX3_like_120, BX3_like_196, BX3_like_203, i_push, i_iload, i_aload, i_istore, i_iinc, i_II, i_lcmp, i_dcmp, i_if, i_cmp, i_getR, i_putI, i_iald, i_lald, i_dald, i_call, i_callV, i_iret, i_cut, lk, wd, rm1, rm2, pick, popn, catS, pushO, aLV, cond_true, cond_false, Bool.not_true, Bool.not_false, Bool.and_true, Bool.and_false, Bool.true_and, Bool.false_and, eq_self, true_and, and_true, Nat.reduceBEq, Nat.reduceAdd, reduceIte, Nat.reduceEqDiff, SX3_isNone, SX3_isPlace]
        try simp only [tCnt, aK, aN, aR, eq_self, true_and, and_true, Nat.reduceLeDiff, Nat.reduceEqDiff]
        (repeat (first | refine And.intro hv1 ?_ | refine And.intro hv2 ?_ | refine And.intro (by decide) ?_))
        rcases hsm with ⟨rfl, hk, hcn, hf⟩ | ⟨rfl, h0⟩
        · refine ⟨fun c => ?_, fun c => ?_⟩
          · rw [mlt_cnt hc (by omega)] at c
            have hno : mE M' (cl p0) (cl p1) i = false → post (some (.inl (.int 0))) M' := fun h2 => by
              rw [fst0_eq (mE M' (cl p0) (cl p1)) hi hf (Or.inr h2), b2i_f (fun h => absurd h.2.2 (by omega))] at hS
              exact hS
            refine ⟨fun q => absurd q (by decide), fun _ => ?_⟩
            simp only [ix40n h1 (show i < 40 by omega), ix40n h2 (show i < 40 by omega), show (nI (40 * cl p0 + i)).toNatClampNeg = 40 * cl p0 + i from ncl (by omega), show (nI (40 * cl p1 + i)).toNatClampNeg = 40 * cl p1 + i from ncl (by omega)]
            have hva := vin (n := 960) (i := 40 * cl p0 + i) (by omega) (by omega)
            have hvb := vin (n := 960) (i := 40 * cl p1 + i) (by omega) (by omega)
            (repeat (first | refine And.intro hv1 ?_ | refine And.intro hv2 ?_ | refine And.intro hva ?_ | refine And.intro hvb ?_ | refine And.intro (by decide) ?_))
            have fin1 : mE M' (cl p0) (cl p1) i = true → ∃ n', n' < n ∧ ∃ i_1 sm, i_1 ≤ mcnt M' (cl p0) ∧ n' = mcnt M' (cl p0) - i_1 ∧ [(0, (Sum.inr (8, 0) : AV)), (1, .inl (.int p0)), (2, .inl (.int p1)), (3, .inl (.int 1)), (4, .inl (.int (nI i + 1)))] = [(0, .inr (8, 0)), (1, .inl (.int p0)), (2, .inl (.int p1)), (3, .inl (.int sm)), (4, .inl (.int (nI i_1)))] ∧ (sm = 1 ∧ M'.1 9 0 (cl p0) = M'.1 9 0 (cl p1) ∧ M'.1 10 0 (cl p0) = M'.1 10 0 (cl p1) ∧ (∀ j, j < i_1 → mE M' (cl p0) (cl p1) j = true) ∨ sm = 0 ∧ post (some (.inl (.int 0))) M') := fun hE =>
              ⟨n - 1, by omega, i + 1, 1, by omega, by omega, by rw [nI_1], Or.inl ⟨rfl, hk, hcn, fun j hj => (if e : j = i then by rw [e]; exact hE else hf j (by omega))⟩⟩
            have fin0 : mE M' (cl p0) (cl p1) i = false → ∃ n', n' < n ∧ ∃ i_1 sm, i_1 ≤ mcnt M' (cl p0) ∧ n' = mcnt M' (cl p0) - i_1 ∧ [(0, (Sum.inr (8, 0) : AV)), (1, .inl (.int p0)), (2, .inl (.int p1)), (3, .inl (.int 0)), (4, .inl (.int (nI i + 1)))] = [(0, .inr (8, 0)), (1, .inl (.int p0)), (2, .inl (.int p1)), (3, .inl (.int sm)), (4, .inl (.int (nI i_1)))] ∧ (sm = 1 ∧ M'.1 9 0 (cl p0) = M'.1 9 0 (cl p1) ∧ M'.1 10 0 (cl p0) = M'.1 10 0 (cl p1) ∧ (∀ j, j < i_1 → mE M' (cl p0) (cl p1) j = true) ∨ sm = 0 ∧ post (some (.inl (.int 0))) M') := fun hE =>
              ⟨n - 1, by omega, i + 1, 0, by omega, by omega, by rw [nI_1], Or.inr ⟨rfl, hno hE⟩⟩
            have eE : ∀ b, isR (M'.1 9 0 (cl p0)) = b → mE M' (cl p0) (cl p1) i = (if b = true then decide (Op.cmpValue (FP.dcmp (M'.2.2 13 0 (40 * cl p0 + i)) (M'.2.2 13 0 (40 * cl p1 + i))) .l = 0) else decide (lg_cmp (M'.2.1 12 0 (40 * cl p0 + i)) (M'.2.1 12 0 (40 * cl p1 + i)) = 0)) := fun b hb => by unfold mE; rw [hb]
            refine ⟨fun c5 => ?_, fun c5 => ?_⟩
            · have e := eE true (isR_5 c5)
              rw [if_pos rfl] at e
              (repeat (first | refine And.intro hv1 ?_ | refine And.intro hv2 ?_ | refine And.intro hva ?_ | refine And.intro hvb ?_ | refine And.intro (by decide) ?_))
              exact ⟨fun q => absurd q (by decide), fun _ => by
                (repeat (first | refine And.intro hv1 ?_ | refine And.intro hv2 ?_ | refine And.intro hva ?_ | refine And.intro hvb ?_ | refine And.intro (by decide) ?_))
                exact ⟨fun q => fin1 (by rw [e]; simpa using q), fun q => fin0 (by rw [e]; simpa using q)⟩⟩
            · (repeat (first | refine And.intro hv1 ?_ | refine And.intro hv2 ?_ | refine And.intro hva ?_ | refine And.intro hvb ?_ | refine And.intro (by decide) ?_))
              refine ⟨fun c6 => ?_, fun c6 => ?_⟩
              · have e := eE true (isR_6 c6)
                rw [if_pos rfl] at e
                (repeat (first | refine And.intro hv1 ?_ | refine And.intro hv2 ?_ | refine And.intro hva ?_ | refine And.intro hvb ?_ | refine And.intro (by decide) ?_))
                exact ⟨fun q => absurd q (by decide), fun _ => by
                  (repeat (first | refine And.intro hv1 ?_ | refine And.intro hv2 ?_ | refine And.intro hva ?_ | refine And.intro hvb ?_ | refine And.intro (by decide) ?_))
                  exact ⟨fun q => fin1 (by rw [e]; simpa using q), fun q => fin0 (by rw [e]; simpa using q)⟩⟩
              · have e := eE false (isR_n c5 c6)
                rw [if_neg (by decide)] at e
                (repeat (first | refine And.intro hv1 ?_ | refine And.intro hv2 ?_ | refine And.intro hva ?_ | refine And.intro hvb ?_ | refine And.intro (by decide) ?_))
                exact ⟨fun _ => by
                  (repeat (first | refine And.intro hv1 ?_ | refine And.intro hv2 ?_ | refine And.intro hva ?_ | refine And.intro hvb ?_ | refine And.intro (by decide) ?_))
                  exact ⟨fun q => fin1 (by rw [e]; simpa using q), fun q => fin0 (by rw [e]; simpa using q)⟩, fun q => absurd (by trivial) q⟩
          · rw [mlt_cnt hc (by omega)] at c
            rw [fst0_eq (mE M' (cl p0) (cl p1)) hi hf (Or.inl (by omega)), b2i_t ⟨hk, hcn, by omega⟩] at hS
            exact ⟨fun q => absurd q (by decide), fun _ => hS⟩
        · exact ⟨fun c => ⟨fun _ => ⟨fun _ => h0, fun q => absurd (by trivial) q⟩, fun q => absurd (by trivial) q⟩, fun c => ⟨fun _ => h0, fun q => absurd (by trivial) q⟩⟩
      refine ⟨by simp only [lk, wd, rm1, rm2, pick, popn, catS, pushO, aLV, cond_true, cond_false, Bool.not_true, Bool.not_false, Bool.and_true, Bool.and_false, Bool.true_and, Bool.false_and, eq_self, true_and, and_true, Nat.reduceBEq, Nat.reduceAdd, reduceIte, Nat.reduceEqDiff]; decide, sBX3_like_0 F hr hlk (SO_or hL) _ _ _ ?_⟩
      simp only [BX3_like_0, BX3_like_74, BX3_like_75, BX3_like_79, BX3_like_115, BX3_like_120, BX3_like_196, BX3_like_203, i_push, i_iload, i_aload, i_istore, i_iinc, i_II, i_lcmp, i_dcmp, i_if, i_cmp, i_getR, i_putI, i_iald, i_lald, i_dald, i_call, i_callV, i_iret, i_cut, lk, wd, rm1, rm2, pick, popn, catS, pushO, aLV, cond_true, cond_false, Bool.not_true, Bool.not_false, Bool.and_true, Bool.and_false, Bool.true_and, Bool.false_and, eq_self, true_and, and_true, Nat.reduceBEq, Nat.reduceAdd, reduceIte, Nat.reduceEqDiff, SX3_isNone, SX3_isPlace]
      try simp only [tCnt, aK, aN, aR, eq_self, true_and, and_true, Nat.reduceLeDiff, Nat.reduceEqDiff]
      simp only [b2i_0]
      simp only [show sI M 8 0 0 0 = z0 M from rfl, ← hN]
      simp only [h1, h2, h3, h4, Bool.true_eq_false, Bool.false_eq_true, not_true_eq_false, not_false_eq_true, true_implies, false_implies, true_and, and_true]
      (repeat (first | refine And.intro hv1 ?_ | refine And.intro hv2 ?_ | refine And.intro (by decide) ?_))
      refine ⟨fun c1 => ?_, fun c1 => ?_⟩
      · (repeat (first | refine And.intro hv1 ?_ | refine And.intro hv2 ?_ | refine And.intro (by decide) ?_))
        refine ⟨fun c2 => ?_, fun c2 => ?_⟩
        · exact ⟨mcnt N (cl p0), 0, 1, by omega, by omega, rfl, Or.inl ⟨rfl, c1, c2, fun j hj => absurd hj (Nat.not_lt_zero j)⟩⟩
        · rw [b2i_f (fun h => c2 h.2.1)] at hS
          exact ⟨mcnt N (cl p0), 0, 0, by omega, by omega, rfl, Or.inr ⟨rfl, hS⟩⟩
      · rw [b2i_f (fun h => c1 h.1)] at hS
        exact ⟨mcnt N (cl p0), 0, 0, by omega, by omega, rfl, Or.inr ⟨rfl, hS⟩⟩
  · exact hS.elim
def mHI (N : MM) (p i : Nat) : Int32 := if ¬ N.1 9 0 p < 7 ∧ ¬ lg_cmp (N.2.1 12 0 (40 * p + i)) 0 < 0 then 1 else 0
def m_cols (N : MM) (n : Nat) : Int32 := bx_sum (fun p => if N.1 9 0 p = -1 then 0 else 1) n
def m_cells (N : MM) (n : Nat) : Int32 := bx_sum (fun p => N.1 10 0 p) n
def m_held (N : MM) (n : Nat) : Int32 := bx_sum (fun p => bx_sum (mHI N p) (mcnt N p)) n
def m_told (N : MM) (w : Int32) : Int32 := if inR w 0 3 = false then -1 else if w = 0 then m_cols N 24 else if w = 1 then m_cells N 24 else if w = 2 then N.1 8 0 11 else m_held N 24
abbrev tLV (N : MM) (w : Int32) (p : Nat) : LV := [(0, .inr (8, 0)), (1, .inl (.int w)), (2, .inl (.int (m_cols N p))), (3, .inl (.int (m_cells N p))), (4, .inl (.int (m_held N p))), (5, .inl (.int (nI p)))]
def SX3_told : SP := fun as M post => match as with
  | [.inr (t, i0), .inl (.int w)] => t = 8 ∧ i0 = 0 ∧ MOK (z0 M) ∧ post (some (.inl (.int (m_told (z0 M) w)))) (z0 M)
  | _ => False
abbrev rmX3_told : Room := ({ frames := 1, cells := 0, slots := 0, locals := 60 } : Room)
def BX3_told_114 (Qr : Option AV → MM → Prop) (K26 K65 : PT) (lv : LV) (st : List AV) (M : MM) : Prop := (i_II (fun a b => a + b) (i_istore 4 (i_iinc 6 1 (i_cut [0, 1, 2, 3, 4, 5, 6] K65)))) lv st M
set_option maxRecDepth 100000 in
set_option maxHeartbeats 4000000 in
theorem sBX3_told_114 {p : Program} {l : Launch} {e : Env} {s : State} {m : MethodId} {args : Array Value} {below : List Frame} {meth : Method} {c : Code} {G : Nat → Nat → Nat} {cy dC : Nat → ClassId} {dI : Nat → Nat → Nat} {Qr : Option AV → MM → Prop} {K26 K65 : PT} (F : FX p m c cX3_told 7 RX3 s args (AW G) G cy dC dI) (hr : meth.sig.returnType = (some .int)) (hlk : meth.locks = false) (h26 : SO p l e rmX3_told s m args below meth c 0 0 (MQ below (QI G cy dC dI Qr) args s 0 0 (AW G)) 7 (AW G) G cy dC dI 26 K26) (h65 : SO p l e rmX3_told s m args below meth c 0 0 (MQ below (QI G cy dC dI Qr) args s 0 0 (AW G)) 7 (AW G) G cy dC dI 65 K65) : SO p l e rmX3_told s m args below meth c 0 0 (MQ below (QI G cy dC dI Qr) args s 0 0 (AW G)) 7 (AW G) G cy dC dI 114 (BX3_told_114 Qr K26 K65) := by
  exact (s_iadd F dX3_told_114 (s_istore F dX3_told_115 (by decide) (s_iinc F dX3_told_117 (by decide) (by decide) (s_goto F dX3_told_120 (by decide) (s_cut [0, 1, 2, 3, 4, 5, 6] h65)))))
def BX3_told_113 (Qr : Option AV → MM → Prop) (K26 K65 : PT) (lv : LV) (st : List AV) (M : MM) : Prop := (i_push (.inl (.int 0)) (i_cut [0, 1, 2, 3, 5, 6] (BX3_told_114 Qr K26 K65))) lv st M
set_option maxRecDepth 100000 in
set_option maxHeartbeats 4000000 in
theorem sBX3_told_113 {p : Program} {l : Launch} {e : Env} {s : State} {m : MethodId} {args : Array Value} {below : List Frame} {meth : Method} {c : Code} {G : Nat → Nat → Nat} {cy dC : Nat → ClassId} {dI : Nat → Nat → Nat} {Qr : Option AV → MM → Prop} {K26 K65 : PT} (F : FX p m c cX3_told 7 RX3 s args (AW G) G cy dC dI) (hr : meth.sig.returnType = (some .int)) (hlk : meth.locks = false) (h26 : SO p l e rmX3_told s m args below meth c 0 0 (MQ below (QI G cy dC dI Qr) args s 0 0 (AW G)) 7 (AW G) G cy dC dI 26 K26) (h65 : SO p l e rmX3_told s m args below meth c 0 0 (MQ below (QI G cy dC dI Qr) args s 0 0 (AW G)) 7 (AW G) G cy dC dI 65 K65) : SO p l e rmX3_told s m args below meth c 0 0 (MQ below (QI G cy dC dI Qr) args s 0 0 (AW G)) 7 (AW G) G cy dC dI 113 (BX3_told_113 Qr K26 K65) := by
  exact (s_iconst F dX3_told_113 (by decide) (s_cut [0, 1, 2, 3, 5, 6] (sBX3_told_114 F hr hlk h26 h65)))
def BX3_told_65 (Qr : Option AV → MM → Prop) (K26 K65 : PT) (lv : LV) (st : List AV) (M : MM) : Prop := (i_iload 6 (i_aload 0 (i_getR 8 10 (fun _ => 0) (i_iload 5 (i_iald 0 (i_cmp (fun a b => a < b) (i_iload 4 (i_aload 0 (i_getR 8 9 (fun _ => 0) (i_iload 5 (i_iald 0 (i_push (.inl (.int 7)) (i_cmp (fun a b => a < b) (i_cut [0, 1, 2, 3, 5, 6] (BX3_told_113 Qr K26 K65)) (i_aload 0 (i_getR 8 12 (fun _ => 0) (i_push (.inl (.int 40)) (i_iload 5 (i_II (fun a b => a * b) (i_iload 6 (i_II (fun a b => a + b) (i_lald (i_push (.inl (.long 0)) (i_lcmp (i_if (fun a => a < 0) (i_cut [0, 1, 2, 3, 5, 6] (BX3_told_113 Qr K26 K65)) (i_push (.inl (.int 1)) (i_cut [0, 1, 2, 3, 5, 6] (BX3_told_114 Qr K26 K65))))))))))))))))))))) (i_iinc 5 1 (i_cut [0, 1, 2, 3, 4, 5] K26)))))))) lv st M
set_option maxRecDepth 100000 in
set_option maxHeartbeats 4000000 in
theorem sBX3_told_65 {p : Program} {l : Launch} {e : Env} {s : State} {m : MethodId} {args : Array Value} {below : List Frame} {meth : Method} {c : Code} {G : Nat → Nat → Nat} {cy dC : Nat → ClassId} {dI : Nat → Nat → Nat} {Qr : Option AV → MM → Prop} {K26 K65 : PT} (F : FX p m c cX3_told 7 RX3 s args (AW G) G cy dC dI) (hr : meth.sig.returnType = (some .int)) (hlk : meth.locks = false) (h26 : SO p l e rmX3_told s m args below meth c 0 0 (MQ below (QI G cy dC dI Qr) args s 0 0 (AW G)) 7 (AW G) G cy dC dI 26 K26) (h65 : SO p l e rmX3_told s m args below meth c 0 0 (MQ below (QI G cy dC dI Qr) args s 0 0 (AW G)) 7 (AW G) G cy dC dI 65 K65) : SO p l e rmX3_told s m args below meth c 0 0 (MQ below (QI G cy dC dI Qr) args s 0 0 (AW G)) 7 (AW G) G cy dC dI 65 (BX3_told_65 Qr K26 K65) := by
  exact (s_iload F dX3_told_65 (s_aload_n F dX3_told_67 rfl (s_getR F (ci := 3) (f := 2) dX3_told_68 rfl in_X3 (by decide) q469 (fun _ _ _ _ => ⟨_, rfl, rfl⟩) (s_iload F dX3_told_71 (s_iald F dX3_told_73 (s_icmp_ge F dX3_told_74 (by decide) (s_iinc F dX3_told_123 (by decide) (by decide) (s_goto F dX3_told_126 (by decide) (s_cut [0, 1, 2, 3, 4, 5] h26))) (s_iload F dX3_told_77 (s_aload_n F dX3_told_79 rfl (s_getR F (ci := 3) (f := 1) dX3_told_80 rfl in_X3 (by decide) q468 (fun _ _ _ _ => ⟨_, rfl, rfl⟩) (s_iload F dX3_told_83 (s_iald F dX3_told_85 (s_bipush F dX3_told_86 (by decide) (s_icmp_lt F dX3_told_88 (by decide) (s_cut [0, 1, 2, 3, 5, 6] (sBX3_told_113 F hr hlk h26 h65)) (s_aload_n F dX3_told_91 rfl (s_getR F (ci := 3) (f := 4) dX3_told_92 rfl in_X3 (by decide) q471 (fun _ _ _ _ => ⟨_, rfl, rfl⟩) (s_bipush F dX3_told_95 (by decide) (s_iload F dX3_told_97 (s_imul F dX3_told_99 (s_iload F dX3_told_100 (s_iadd F dX3_told_102 (s_lald F dX3_told_103 (s_lconst F dX3_told_104 (by decide) (s_lcmp F dX3_told_105 (s_if_lt F dX3_told_106 (by decide) (s_cut [0, 1, 2, 3, 5, 6] (sBX3_told_113 F hr hlk h26 h65)) (s_iconst F dX3_told_109 (by decide) (s_goto F dX3_told_110 (by decide) (s_cut [0, 1, 2, 3, 5, 6] (sBX3_told_114 F hr hlk h26 h65))))))))))))))))))))))))))))
def BX3_told_50 (Qr : Option AV → MM → Prop) (K26 K65 : PT) (lv : LV) (st : List AV) (M : MM) : Prop := (i_II (fun a b => a + b) (i_istore 2 (i_iload 3 (i_aload 0 (i_getR 8 10 (fun _ => 0) (i_iload 5 (i_iald 0 (i_II (fun a b => a + b) (i_istore 3 (i_push (.inl (.int 0)) (i_istore 6 (i_cut [0, 1, 2, 3, 4, 5, 6] K65)))))))))))) lv st M
set_option maxRecDepth 100000 in
set_option maxHeartbeats 4000000 in
theorem sBX3_told_50 {p : Program} {l : Launch} {e : Env} {s : State} {m : MethodId} {args : Array Value} {below : List Frame} {meth : Method} {c : Code} {G : Nat → Nat → Nat} {cy dC : Nat → ClassId} {dI : Nat → Nat → Nat} {Qr : Option AV → MM → Prop} {K26 K65 : PT} (F : FX p m c cX3_told 7 RX3 s args (AW G) G cy dC dI) (hr : meth.sig.returnType = (some .int)) (hlk : meth.locks = false) (h26 : SO p l e rmX3_told s m args below meth c 0 0 (MQ below (QI G cy dC dI Qr) args s 0 0 (AW G)) 7 (AW G) G cy dC dI 26 K26) (h65 : SO p l e rmX3_told s m args below meth c 0 0 (MQ below (QI G cy dC dI Qr) args s 0 0 (AW G)) 7 (AW G) G cy dC dI 65 K65) : SO p l e rmX3_told s m args below meth c 0 0 (MQ below (QI G cy dC dI Qr) args s 0 0 (AW G)) 7 (AW G) G cy dC dI 50 (BX3_told_50 Qr K26 K65) := by
  exact (s_iadd F dX3_told_50 (s_istore_n F dX3_told_51 rfl (by decide) (s_iload_n F dX3_told_52 rfl (s_aload_n F dX3_told_53 rfl (s_getR F (ci := 3) (f := 2) dX3_told_54 rfl in_X3 (by decide) q469 (fun _ _ _ _ => ⟨_, rfl, rfl⟩) (s_iload F dX3_told_57 (s_iald F dX3_told_59 (s_iadd F dX3_told_60 (s_istore_n F dX3_told_61 rfl (by decide) (s_iconst F dX3_told_62 (by decide) (s_istore F dX3_told_63 (by decide) (s_cut [0, 1, 2, 3, 4, 5, 6] h65))))))))))))
def BX3_told_26 (Qr : Option AV → MM → Prop) (K26 K65 : PT) (lv : LV) (st : List AV) (M : MM) : Prop := (i_iload 5 (i_push (.inl (.int 24)) (i_cmp (fun a b => a < b) (i_iload 2 (i_aload 0 (i_getR 8 9 (fun _ => 0) (i_iload 5 (i_iald 0 (i_push (.inl (.int (-1))) (i_cmp (fun a b => a = b) (i_push (.inl (.int 0)) (i_cut [0, 1, 3, 4, 5] (BX3_told_50 Qr K26 K65))) (i_push (.inl (.int 1)) (i_cut [0, 1, 3, 4, 5] (BX3_told_50 Qr K26 K65)))))))))) (i_iload 1 (i_if (fun a => a = 0) (i_iload 2 (i_iret Qr)) (i_iload 1 (i_push (.inl (.int 1)) (i_cmp (fun a b => a = b) (i_iload 3 (i_iret Qr)) (i_iload 1 (i_push (.inl (.int 2)) (i_cmp (fun a b => a = b) (i_aload 0 (i_getI 8 11 (i_iret Qr))) (i_iload 4 (i_iret Qr))))))))))))) lv st M
set_option maxRecDepth 100000 in
set_option maxHeartbeats 4000000 in
theorem sBX3_told_26 {p : Program} {l : Launch} {e : Env} {s : State} {m : MethodId} {args : Array Value} {below : List Frame} {meth : Method} {c : Code} {G : Nat → Nat → Nat} {cy dC : Nat → ClassId} {dI : Nat → Nat → Nat} {Qr : Option AV → MM → Prop} {K26 K65 : PT} (F : FX p m c cX3_told 7 RX3 s args (AW G) G cy dC dI) (hr : meth.sig.returnType = (some .int)) (hlk : meth.locks = false) (h26 : SO p l e rmX3_told s m args below meth c 0 0 (MQ below (QI G cy dC dI Qr) args s 0 0 (AW G)) 7 (AW G) G cy dC dI 26 K26) (h65 : SO p l e rmX3_told s m args below meth c 0 0 (MQ below (QI G cy dC dI Qr) args s 0 0 (AW G)) 7 (AW G) G cy dC dI 65 K65) : SO p l e rmX3_told s m args below meth c 0 0 (MQ below (QI G cy dC dI Qr) args s 0 0 (AW G)) 7 (AW G) G cy dC dI 26 (BX3_told_26 Qr K26 K65) := by
  exact (s_iload F dX3_told_26 (s_bipush F dX3_told_28 (by decide) (s_icmp_ge F dX3_told_30 (by decide) (s_iload_n F dX3_told_129 rfl (s_if_ne F dX3_told_130 (by decide) (s_iload_n F dX3_told_137 rfl (s_iconst F dX3_told_138 (by decide) (s_icmp_ne F dX3_told_139 (by decide) (s_iload_n F dX3_told_146 rfl (s_iconst F dX3_told_147 (by decide) (s_icmp_ne F dX3_told_148 (by decide) (s_iload F dX3_told_158 (s_iret F dX3_told_160 hr hlk)) (s_aload_n F dX3_told_151 rfl (s_getI F (ci := 3) dX3_told_152 rfl in_X3 (by decide) q478 (fun _ _ _ _ => ⟨_, rfl, rfl⟩) (s_goto F dX3_told_155 (by decide) (s_iret F dX3_told_160 hr hlk))))))) (s_iload_n F dX3_told_142 rfl (s_goto F dX3_told_143 (by decide) (s_iret F dX3_told_160 hr hlk)))))) (s_iload_n F dX3_told_133 rfl (s_goto F dX3_told_134 (by decide) (s_iret F dX3_told_160 hr hlk))))) (s_iload_n F dX3_told_33 rfl (s_aload_n F dX3_told_34 rfl (s_getR F (ci := 3) (f := 1) dX3_told_35 rfl in_X3 (by decide) q468 (fun _ _ _ _ => ⟨_, rfl, rfl⟩) (s_iload F dX3_told_38 (s_iald F dX3_told_40 (s_iconst F dX3_told_41 (by decide) (s_icmp_ne F dX3_told_42 (by decide) (s_iconst F dX3_told_49 (by decide) (s_cut [0, 1, 3, 4, 5] (sBX3_told_50 F hr hlk h26 h65))) (s_iconst F dX3_told_45 (by decide) (s_goto F dX3_told_46 (by decide) (s_cut [0, 1, 3, 4, 5] (sBX3_told_50 F hr hlk h26 h65))))))))))))))
def BX3_told_0 (Qr : Option AV → MM → Prop) (K26 K65 : PT) (lv : LV) (st : List AV) (M : MM) : Prop := (i_aload 0 (i_push (.inl (.int 0)) (i_putI 8 0 (i_iload 1 (i_push (.inl (.int 0)) (i_push (.inl (.int 3)) (i_call 3 SX3_in (i_if (fun a => a = 0) (i_push (.inl (.int (-1))) (i_iret Qr)) (i_push (.inl (.int 0)) (i_istore 2 (i_push (.inl (.int 0)) (i_istore 3 (i_push (.inl (.int 0)) (i_istore 4 (i_push (.inl (.int 0)) (i_istore 5 (i_cut [0, 1, 2, 3, 4, 5] K26))))))))))))))))) lv st M
set_option maxRecDepth 100000 in
set_option maxHeartbeats 4000000 in
theorem sBX3_told_0 {p : Program} {l : Launch} {e : Env} {s : State} {m : MethodId} {args : Array Value} {below : List Frame} {meth : Method} {c : Code} {G : Nat → Nat → Nat} {cy dC : Nat → ClassId} {dI : Nat → Nat → Nat} {Qr : Option AV → MM → Prop} {K26 K65 : PT} (F : FX p m c cX3_told 7 RX3 s args (AW G) G cy dC dI) (hr : meth.sig.returnType = (some .int)) (hlk : meth.locks = false) (h26 : SO p l e rmX3_told s m args below meth c 0 0 (MQ below (QI G cy dC dI Qr) args s 0 0 (AW G)) 7 (AW G) G cy dC dI 26 K26) (h65 : SO p l e rmX3_told s m args below meth c 0 0 (MQ below (QI G cy dC dI Qr) args s 0 0 (AW G)) 7 (AW G) G cy dC dI 65 K65) : SO p l e rmX3_told s m args below meth c 0 0 (MQ below (QI G cy dC dI Qr) args s 0 0 (AW G)) 7 (AW G) G cy dC dI 0 (BX3_told_0 Qr K26 K65) := by
  exact (s_aload_n F dX3_told_0 rfl (s_iconst F dX3_told_1 (by decide) (s_putI F (ci := 3) dX3_told_2 rfl in_X3 tyX3 tyX3_ok nmX3 (by decide) q467 rfl (by decide +kernel) (fun _ _ _ _ _ => ⟨_, rfl, Nat.le_of_ble_eq_true rfl, rfl⟩) (s_iload_n F dX3_told_5 rfl (s_iconst F dX3_told_6 (by decide) (s_iconst F dX3_told_7 (by decide) (s_callSi F dX3_told_8 (ctX3_in l) (lw_S q532 q533 q4 q534) ⟨rfl, rfl⟩ (by decide +kernel) (by decide) ⟨Nat.zero_le _, Nat.zero_le _⟩ (s_if_ne F dX3_told_11 (by decide) (s_iconst F dX3_told_16 (by decide) (s_istore_n F dX3_told_17 rfl (by decide) (s_iconst F dX3_told_18 (by decide) (s_istore_n F dX3_told_19 rfl (by decide) (s_iconst F dX3_told_20 (by decide) (s_istore F dX3_told_21 (by decide) (s_iconst F dX3_told_23 (by decide) (s_istore F dX3_told_24 (by decide) (s_cut [0, 1, 2, 3, 4, 5] h26))))))))) (s_iconst F dX3_told_14 (by decide) (s_iret F dX3_told_15 hr hlk))))))))))
set_option maxRecDepth 100000 in
set_option maxHeartbeats 4000000 in
theorem ctX3_told (l : Launch) : CI l yX3_told (ws_ yX3_told cX3_told 7 (some .int)) rmX3_told SX3_told := by
  refine mk_CI (by decide) ?_
  intro p e s m args below meth c G cy dC dI F hr hlk as M post hS
  unfold SX3_told at hS
  split at hS
  · rename_i t i0 w
    obtain ⟨rfl, rfl, hM, hS⟩ := hS
    have hN : ∃ N, N = z0 M := ⟨_, rfl⟩
    obtain ⟨N, hN⟩ := hN
    rw [← hN] at hS hM
    unfold m_told at hS
    by_cases hbad : inR w 0 3 = false
    · refine ⟨by simp only [lk, wd, rm1, rm2, pick, popn, catS, pushO, aLV, cond_true, cond_false, Bool.not_true, Bool.not_false, Bool.and_true, Bool.and_false, Bool.true_and, Bool.false_and, eq_self, true_and, and_true, Nat.reduceBEq, Nat.reduceAdd, reduceIte, Nat.reduceEqDiff]; decide, sBX3_told_0 F hr hlk SO_no SO_no _ _ _ ?_⟩
      simp only [BX3_told_0, BX3_told_26, BX3_told_50, BX3_told_65, BX3_told_113, BX3_told_114, i_push, i_iload, i_aload, i_istore, i_iinc, i_II, i_lcmp, i_if, i_cmp, i_getI, i_getR, i_putI, i_iald, i_lald, i_call, i_iret, i_cut, lk, wd, rm1, rm2, pick, popn, catS, pushO, aLV, cond_true, cond_false, Bool.not_true, Bool.not_false, Bool.and_true, Bool.and_false, Bool.true_and, Bool.false_and, eq_self, true_and, and_true, Nat.reduceBEq, Nat.reduceAdd, reduceIte, Nat.reduceEqDiff, SX3_in]
      try simp only [tCnt, aK, aN, aR, eq_self, true_and, and_true, Nat.reduceLeDiff, Nat.reduceEqDiff]
      simp only [b2i_0, Bool.not_eq_true, Bool.not_eq_false]
      simp only [show sI M 8 0 0 0 = z0 M from rfl, ← hN]
      rw [if_pos hbad] at hS
      simp only [hbad, Bool.false_eq_true, true_implies, false_implies, and_true]
      exact ⟨by decide, hS⟩
    · rw [if_neg hbad] at hS
      have hin : ∀ K : PT, SO p l e rmX3_told s m args below meth c 0 0 (MQ below (QI G cy dC dI post) args s 0 0 (AW G)) 7 (AW G) G cy dC dI 26 (K) → ∀ n, SO p l e rmX3_told s m args below meth c 0 0 (MQ below (QI G cy dC dI post) args s 0 0 (AW G)) 7 (AW G) G cy dC dI 65 ((fun (n : Nat) (lv : LV) (st : List AV) (M' : MM) => ∃ p i : Nat, p < 24 ∧ i ≤ mcnt N p ∧ n = mcnt N p - i ∧ lv = [(0, .inr (8, 0)), (1, .inl (.int w)), (2, .inl (.int (m_cols N (p + 1)))), (3, .inl (.int (m_cells N (p + 1)))), (4, .inl (.int (m_held N p + bx_sum (mHI N p) i))), (5, .inl (.int (nI p))), (6, .inl (.int (nI i)))] ∧ st = [] ∧ M' = N ∧ K (tLV N w (p + 1)) [] N) n) := by
        intro K hK
        refine SO_loop (fun K2 => BX3_told_65 post K K2) (fun K2 hK2 => sBX3_told_65 F hr hlk hK hK2) (fun (n : Nat) (lv : LV) (st : List AV) (M' : MM) => ∃ p i : Nat, p < 24 ∧ i ≤ mcnt N p ∧ n = mcnt N p - i ∧ lv = [(0, .inr (8, 0)), (1, .inl (.int w)), (2, .inl (.int (m_cols N (p + 1)))), (3, .inl (.int (m_cells N (p + 1)))), (4, .inl (.int (m_held N p + bx_sum (mHI N p) i))), (5, .inl (.int (nI p))), (6, .inl (.int (nI i)))] ∧ st = [] ∧ M' = N ∧ K (tLV N w (p + 1)) [] N) ?_
        intro n lv st M' ⟨p, i, hp, hi, hn, e1, e2, e3, hk⟩
        subst e1; subst e2; subst e3
        have hc := hM.1 p hp
        have hc40 := mcnt_le hc
        simp only [BX3_told_0, BX3_told_26, BX3_told_50, BX3_told_65, BX3_told_113, BX3_told_114, i_push, i_iload, i_aload, i_istore, i_iinc, i_II, i_lcmp, i_if, i_cmp, i_getI, i_getR, i_putI, i_iald, i_lald, i_call, i_iret, i_cut, lk, wd, rm1, rm2, pick, popn, catS, pushO, aLV, cond_true, cond_false, Bool.not_true, Bool.not_false, Bool.and_true, Bool.and_false, Bool.true_and, Bool.false_and, eq_self, true_and, and_true, Nat.reduceBEq, Nat.reduceAdd, reduceIte, Nat.reduceEqDiff, SX3_in]
        try simp only [tCnt, aK, aN, aR, eq_self, true_and, and_true, Nat.reduceLeDiff, Nat.reduceEqDiff]
        have hv := vin (n := 24) (i := p) (by omega) (by omega)
        simp only [show (nI p).toNatClampNeg = p from ncl (by omega)]
        (repeat (first | refine And.intro hv ?_ | refine And.intro (by decide) ?_))
        refine ⟨fun c => ?_, fun c => ?_⟩
        · rw [mlt_cnt hc (by omega)] at c
          simp only [show (40 : Int32) * nI p + nI i = nI (40 * p + i) from by rw [show (40 : Int32) = nI 40 from rfl, pk_mul, nI_add], show (nI (40 * p + i)).toNatClampNeg = 40 * p + i from ncl (by omega)]
          have hvi := vin (n := 960) (i := 40 * p + i) (by omega) (by omega)
          have nx : ∀ x : Int32, mHI M' p i = x → ∃ n', n' < n ∧ ∃ p_1 i_1, p_1 < 24 ∧ i_1 ≤ mcnt M' p_1 ∧ n' = mcnt M' p_1 - i_1 ∧ [(0, (Sum.inr (8, 0) : AV)), (1, .inl (.int w)), (2, .inl (.int (m_cols M' (p + 1)))), (3, .inl (.int (m_cells M' (p + 1)))), (4, .inl (.int (m_held M' p + bx_sum (mHI M' p) i + x))), (5, .inl (.int (nI p))), (6, .inl (.int (nI i + 1)))] = [(0, .inr (8, 0)), (1, .inl (.int w)), (2, .inl (.int (m_cols M' (p_1 + 1)))), (3, .inl (.int (m_cells M' (p_1 + 1)))), (4, .inl (.int (m_held M' p_1 + bx_sum (mHI M' p_1) i_1))), (5, .inl (.int (nI p_1))), (6, .inl (.int (nI i_1)))] ∧ K (tLV M' w (p_1 + 1)) [] M' := fun x hx =>
            ⟨n - 1, by omega, p, i + 1, hp, by omega, by omega, by rw [nI_1, Int32.add_assoc, ← hx]; rfl, hk⟩
          (repeat (first | refine And.intro hv ?_ | refine And.intro (by decide) ?_))
          refine ⟨fun c2 => nx 0 (by unfold mHI; rw [if_neg (fun q => q.1 c2)]), fun c2 => ?_⟩
          (repeat (first | refine And.intro hv ?_ | refine And.intro hvi ?_ | refine And.intro (by decide) ?_))
          exact ⟨fun c3 => nx 0 (by unfold mHI; rw [if_neg (fun q => q.2 c3)]), fun c3 => nx 1 (by unfold mHI; rw [if_pos ⟨c2, c3⟩])⟩
        · rw [mlt_cnt hc (by omega)] at c
          have e9 : [(0, (Sum.inr (8, 0) : AV)), (1, .inl (.int w)), (2, .inl (.int (m_cols M' (p + 1)))), (3, .inl (.int (m_cells M' (p + 1)))), (4, .inl (.int (m_held M' p + bx_sum (mHI M' p) i))), (5, .inl (.int (nI p + 1)))] = tLV M' w (p + 1) := by
            rw [nI_1, show i = mcnt M' p by omega]
            rfl
          rw [e9]
          exact hk
      have h26 : ∀ n, SO p l e rmX3_told s m args below meth c 0 0 (MQ below (QI G cy dC dI post) args s 0 0 (AW G)) 7 (AW G) G cy dC dI 26 ((fun (n : Nat) (lv : LV) (st : List AV) (M' : MM) => ∃ p : Nat, p ≤ 24 ∧ n = 24 - p ∧ lv = tLV N w p ∧ st = [] ∧ M' = N) n) := by
        refine SO_loop (fun K => BX3_told_26 post K (fun lv st M' => ∃ n, (fun (n : Nat) (lv : LV) (st : List AV) (M' : MM) => ∃ p i : Nat, p < 24 ∧ i ≤ mcnt N p ∧ n = mcnt N p - i ∧ lv = [(0, .inr (8, 0)), (1, .inl (.int w)), (2, .inl (.int (m_cols N (p + 1)))), (3, .inl (.int (m_cells N (p + 1)))), (4, .inl (.int (m_held N p + bx_sum (mHI N p) i))), (5, .inl (.int (nI p))), (6, .inl (.int (nI i)))] ∧ st = [] ∧ M' = N ∧ K (tLV N w (p + 1)) [] N) n lv st M')) (fun K hK => sBX3_told_26 F hr hlk hK (SO_or (hin K hK))) (fun (n : Nat) (lv : LV) (st : List AV) (M' : MM) => ∃ p : Nat, p ≤ 24 ∧ n = 24 - p ∧ lv = tLV N w p ∧ st = [] ∧ M' = N) ?_
        intro n lv st M' ⟨p, hp, hn, e1, e2, e3⟩
        subst e1; subst e2; subst e3
        simp only [BX3_told_0, BX3_told_26, BX3_told_50, BX3_told_65, BX3_told_113, BX3_told_114, i_push, i_iload, i_aload, i_istore, i_iinc, i_II, i_lcmp, i_if, i_cmp, i_getI, i_getR, i_putI, i_iald, i_lald, i_call, i_iret, i_cut, lk, wd, rm1, rm2, pick, popn, catS, pushO, aLV, cond_true, cond_false, Bool.not_true, Bool.not_false, Bool.and_true, Bool.and_false, Bool.true_and, Bool.false_and, eq_self, true_and, and_true, Nat.reduceBEq, Nat.reduceAdd, reduceIte, Nat.reduceEqDiff, SX3_in]
        try simp only [tCnt, aK, aN, aR, eq_self, true_and, and_true, Nat.reduceLeDiff, Nat.reduceEqDiff]
        refine ⟨fun c => ?_, fun c => ?_⟩
        · have hlt : p < 24 := (nI_ltI (by omega) (by omega)).mp c
          have hv := vin (n := 24) (i := p) (by omega) (by omega)
          simp only [show (nI p).toNatClampNeg = p from ncl (by omega)]
          (repeat (first | refine And.intro hv ?_ | refine And.intro (by decide) ?_))
          have nx : ∀ x : Int32, (if M'.1 9 0 p = -1 then 0 else 1) = x → ∃ n_1 p_1 i, p_1 < 24 ∧ i ≤ mcnt M' p_1 ∧ n_1 = mcnt M' p_1 - i ∧ [(0, (Sum.inr (8, 0) : AV)), (1, .inl (.int w)), (2, .inl (.int (m_cols M' p + x))), (3, .inl (.int (m_cells M' p + M'.1 10 0 p))), (4, .inl (.int (m_held M' p))), (5, .inl (.int (nI p))), (6, .inl (.int 0))] = [(0, .inr (8, 0)), (1, .inl (.int w)), (2, .inl (.int (m_cols M' (p_1 + 1)))), (3, .inl (.int (m_cells M' (p_1 + 1)))), (4, .inl (.int (m_held M' p_1 + bx_sum (mHI M' p_1) i))), (5, .inl (.int (nI p_1))), (6, .inl (.int (nI i)))] ∧ ∃ n', n' < n ∧ ∃ p_2, p_2 ≤ 24 ∧ n' = 24 - p_2 ∧ tLV M' w (p_1 + 1) = tLV M' w p_2 := fun x hx =>
            ⟨mcnt M' p, p, 0, hlt, by omega, by omega, by rw [← hx, show bx_sum (mHI M' p) 0 = 0 from rfl, Int32.add_zero]; rfl, n - 1, by omega, p + 1, by omega, by omega, rfl⟩
          refine ⟨fun c2 => ?_, fun c2 => ?_⟩
          · (repeat (first | refine And.intro hv ?_ | refine And.intro (by decide) ?_))
            exact nx 0 (if_pos c2)
          · (repeat (first | refine And.intro hv ?_ | refine And.intro (by decide) ?_))
            exact nx 1 (if_neg c2)
        · have hge : p = 24 := by
            have := mt (nI_ltI (a := p) (b := 24) (by omega) (by omega)).mpr c
            omega
          subst hge
          refine ⟨fun c1 => ?_, fun c1 => ?_⟩
          · rw [if_pos c1] at hS
            exact hS
          · rw [if_neg c1] at hS
            refine ⟨fun c2 => ?_, fun c2 => ?_⟩
            · rw [if_pos c2] at hS
              exact hS
            · rw [if_neg c2] at hS
              refine ⟨fun c3 => ?_, fun c3 => ?_⟩
              · rw [if_pos c3] at hS
                (repeat (first | refine And.intro hS ?_ | refine And.intro (by decide) ?_)) <;> first | exact hS | exact ⟨by decide, hS⟩
              · rw [if_neg c3] at hS
                exact hS
      refine ⟨by simp only [lk, wd, rm1, rm2, pick, popn, catS, pushO, aLV, cond_true, cond_false, Bool.not_true, Bool.not_false, Bool.and_true, Bool.and_false, Bool.true_and, Bool.false_and, eq_self, true_and, and_true, Nat.reduceBEq, Nat.reduceAdd, reduceIte, Nat.reduceEqDiff]; decide, sBX3_told_0 F hr hlk (SO_or h26) SO_no _ _ _ ?_⟩
      simp only [BX3_told_0, BX3_told_26, BX3_told_50, BX3_told_65, BX3_told_113, BX3_told_114, i_push, i_iload, i_aload, i_istore, i_iinc, i_II, i_lcmp, i_if, i_cmp, i_getI, i_getR, i_putI, i_iald, i_lald, i_call, i_iret, i_cut, lk, wd, rm1, rm2, pick, popn, catS, pushO, aLV, cond_true, cond_false, Bool.not_true, Bool.not_false, Bool.and_true, Bool.and_false, Bool.true_and, Bool.false_and, eq_self, true_and, and_true, Nat.reduceBEq, Nat.reduceAdd, reduceIte, Nat.reduceEqDiff, SX3_in]
      try simp only [tCnt, aK, aN, aR, eq_self, true_and, and_true, Nat.reduceLeDiff, Nat.reduceEqDiff]
      simp only [b2i_0, Bool.not_eq_true, Bool.not_eq_false]
      simp only [show sI M 8 0 0 0 = z0 M from rfl, ← hN]
      have hb' : inR w 0 3 = true := by simpa using hbad
      simp only [hb', Bool.true_eq_false, true_implies, false_implies, true_and]
      exact ⟨by decide, 24, 0, by omega, by omega, by first | exact ⟨rfl, trivial⟩ | exact ⟨rfl, rfl⟩ | rfl⟩
  · exact hS.elim
