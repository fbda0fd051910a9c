theorem inR_mp (p : Int32) : inR p 0 3 = isMp p := by
  unfold inR isMp
  congr 1
  rw [← decide_not]
  congr 1
  rw [Int32.lt_iff_toInt_lt, Int32.lt_iff_toInt_lt]
  have e1 : (3 : Int32).toInt = 3 := by decide
  have e2 : (4 : Int32).toInt = 4 := by decide
  rw [e1, e2]
  exact propext (by omega)
theorem isPl_nI {x : Nat} (h : x < 24) : isPl (nI x) = true := by
  unfold isPl
  rw [decide_eq_false (nI_pos (by omega)), decide_eq_true (show nI x < (24 : Int32) from (nI_ltI (a := x) (b := 24) (by omega) (by omega)).mpr h)]
  rfl
theorem dig_in (r : Int32) (f : Nat) : ∃ j, j < 8 ∧ dig r f = nI j := pk_andE _ 3 (by decide)
/-- a mapping laid aside: the first c cells of place p at field f -/
def svF (N : MM) (p f c : Nat) : MM := rD (rL N 17 0 (fun j => if 40 * f ≤ j ∧ j < 40 * f + c then N.2.1 12 0 (40 * p + (j - 40 * f)) else N.2.1 17 0 j)) 18 0 (fun j => if 40 * f ≤ j ∧ j < 40 * f + c then N.2.2 13 0 (40 * p + (j - 40 * f)) else N.2.2 18 0 j)
def sv1 (N : MM) (p f : Nat) : MM := sI (sI (sI N 14 0 f (N.1 9 0 p)) 15 0 f (N.1 10 0 p)) 16 0 f (vp_nar .boolean (N.1 11 0 p))
def m_sv (N : MM) (a : Nat) : Nat → MM
  | 0 => N
  | f + 1 => svF (sv1 (m_sv N a f) (6 * a + f) f) (6 * a + f) f 40
def m_md (N : MM) (p : Nat) (d : Int32) : MM := if d < 6 then m_take N p (cl d) else if d = 6 then sI (sI (sI N 9 0 p (-1)) 10 0 p 0) 11 0 p 0 else N
def m_mv (N : MM) (b : Nat) (r : Int32) : Nat → Int32 × MM
  | 0 => (0, N)
  | n + 1 => ((m_mv N b r n).1 + (if (m_md (m_mv N b r n).2 (6 * b + n) (dig r n)).1 9 0 (6 * b + n) = -1 then 0 else 1), m_md (m_mv N b r n).2 (6 * b + n) (dig r n))
def m_move (N : MM) (a b r : Int32) : Int32 × MM := if isMp a = false ∨ isMp b = false ∨ inR r 0 262143 = false then (-1, N) else m_mv (m_sv N (cl a) 6) (cl b) r 6
theorem svF_0 (N : MM) (p f : Nat) : svF N p f 0 = N := by
  refine MM_ext (fun _ _ _ => rfl) (fun t i j => ?_) (fun t i j => ?_)
  · simp only [svF, rL, rD]
    split
    · rename_i h; obtain ⟨rfl, rfl⟩ := h
      dsimp only
      rw [if_neg (by omega)]
    · rfl
  · simp only [svF, rL, rD]
    split
    · rename_i h; obtain ⟨rfl, rfl⟩ := h
      dsimp only
      rw [if_neg (by omega)]
    · rfl
theorem svF_h (N : MM) (p f i j : Nat) : (svF N p f i).2.1 12 0 j = N.2.1 12 0 j ∧ (svF N p f i).2.2 13 0 j = N.2.2 13 0 j := by
  constructor <;> simp [svF, rL, rD]
theorem svF_1 (N : MM) (p f : Nat) (i : Nat) : sD (sL (svF N p f i) 17 0 (40 * f + i) (N.2.1 12 0 (40 * p + i))) 18 0 (40 * f + i) (N.2.2 13 0 (40 * p + i)) = svF N p f (i + 1) := by
  refine MM_ext (fun _ _ _ => rfl) (fun t z j => ?_) (fun t z j => ?_)
  · simp only [svF, rL, rD, sL, sD]
    by_cases h : t = 17 ∧ z = 0
    · obtain ⟨rfl, rfl⟩ := h
      by_cases hj : j = 40 * f + i
      · subst hj
        simp only [and_self, if_true]
        rw [if_pos (by omega), show 40 * f + i - 40 * f = i by omega]
      · simp only [true_and, hj, if_false, and_self, if_true]
        by_cases h3 : 40 * f ≤ j ∧ j < 40 * f + i
        · rw [if_pos h3, if_pos (by omega)]
        · rw [if_neg h3, if_neg (by omega)]
    · rw [if_neg (fun q => h ⟨q.1, q.2.1⟩), if_neg h, if_neg h]
  · simp only [svF, rL, rD, sL, sD]
    by_cases h : t = 18 ∧ z = 0
    · obtain ⟨rfl, rfl⟩ := h
      by_cases hj : j = 40 * f + i
      · subst hj
        simp only [and_self, if_true]
        rw [if_pos (by omega), show 40 * f + i - 40 * f = i by omega]
      · simp only [true_and, hj, if_false, and_self, if_true]
        by_cases h3 : 40 * f ≤ j ∧ j < 40 * f + i
        · rw [if_pos h3, if_pos (by omega)]
        · rw [if_neg h3, if_neg (by omega)]
    · rw [if_neg (fun q => h ⟨q.1, q.2.1⟩), if_neg h, if_neg h]

def SX3_move : SP := fun as M post => match as with
  | [.inr (t, i0), .inl (.int a), .inl (.int b), .inl (.int r)] => t = 8 ∧ i0 = 0 ∧ post (some (.inl (.int (m_move (z0 M) a b r).1))) (m_move (z0 M) a b r).2
  | _ => False
abbrev rmX3_move : Room := ({ frames := 1, cells := 0, slots := 0, locals := 60 } : Room)
def BX3_move_270 (Qr : Option AV → MM → Prop) (K38 K99 K176 : PT) (lv : LV) (st : List AV) (M : MM) : Prop := (i_II (fun a b => a + b) (i_istore 4 (i_iinc 5 1 (i_cut [0, 2, 3, 4, 5] K176)))) lv st M
set_option maxRecDepth 100000 in
set_option maxHeartbeats 4000000 in
theorem sBX3_move_270 {p : Program} {l : Launch} {e : Env} {s : State} {m : MethodId} {args : Array Value} {below : List Frame} {meth : Method} {c : Code} {G : Nat → Nat → Nat} {cy dC : Nat → ClassId} {dI : Nat → Nat → Nat} {Qr : Option AV → MM → Prop} {K38 K99 K176 : PT} (F : FX p m c cX3_move 8 RX3 s args (AW G) G cy dC dI) (hr : meth.sig.returnType = (some .int)) (hlk : meth.locks = false) (h38 : SO p l e rmX3_move s m args below meth c 0 0 (MQ below (QI G cy dC dI Qr) args s 0 0 (AW G)) 8 (AW G) G cy dC dI 38 K38) (h99 : SO p l e rmX3_move s m args below meth c 0 0 (MQ below (QI G cy dC dI Qr) args s 0 0 (AW G)) 8 (AW G) G cy dC dI 99 K99) (h176 : SO p l e rmX3_move s m args below meth c 0 0 (MQ below (QI G cy dC dI Qr) args s 0 0 (AW G)) 8 (AW G) G cy dC dI 176 K176) : SO p l e rmX3_move s m args below meth c 0 0 (MQ below (QI G cy dC dI Qr) args s 0 0 (AW G)) 8 (AW G) G cy dC dI 270 (BX3_move_270 Qr K38 K99 K176) := by
  exact (s_iadd F dX3_move_270 (s_istore F dX3_move_271 (by decide) (s_iinc F dX3_move_273 (by decide) (by decide) (s_goto F dX3_move_276 (by decide) (s_cut [0, 2, 3, 4, 5] h176)))))
def BX3_move_252 (Qr : Option AV → MM → Prop) (K38 K99 K176 : PT) (lv : LV) (st : List AV) (M : MM) : Prop := (i_iload 4 (i_aload 0 (i_getR 8 9 (fun _ => 0) (i_iload 7 (i_iald 0 (i_push (.inl (.int (-1))) (i_cmp (fun a b => a = b) (i_push (.inl (.int 0)) (i_cut [0, 2, 3, 5] (BX3_move_270 Qr K38 K99 K176))) (i_push (.inl (.int 1)) (i_cut [0, 2, 3, 5] (BX3_move_270 Qr K38 K99 K176)))))))))) lv st M
set_option maxRecDepth 100000 in
set_option maxHeartbeats 4000000 in
theorem sBX3_move_252 {p : Program} {l : Launch} {e : Env} {s : State} {m : MethodId} {args : Array Value} {below : List Frame} {meth : Method} {c : Code} {G : Nat → Nat → Nat} {cy dC : Nat → ClassId} {dI : Nat → Nat → Nat} {Qr : Option AV → MM → Prop} {K38 K99 K176 : PT} (F : FX p m c cX3_move 8 RX3 s args (AW G) G cy dC dI) (hr : meth.sig.returnType = (some .int)) (hlk : meth.locks = false) (h38 : SO p l e rmX3_move s m args below meth c 0 0 (MQ below (QI G cy dC dI Qr) args s 0 0 (AW G)) 8 (AW G) G cy dC dI 38 K38) (h99 : SO p l e rmX3_move s m args below meth c 0 0 (MQ below (QI G cy dC dI Qr) args s 0 0 (AW G)) 8 (AW G) G cy dC dI 99 K99) (h176 : SO p l e rmX3_move s m args below meth c 0 0 (MQ below (QI G cy dC dI Qr) args s 0 0 (AW G)) 8 (AW G) G cy dC dI 176 K176) : SO p l e rmX3_move s m args below meth c 0 0 (MQ below (QI G cy dC dI Qr) args s 0 0 (AW G)) 8 (AW G) G cy dC dI 252 (BX3_move_252 Qr K38 K99 K176) := by
  exact (s_iload F dX3_move_252 (s_aload_n F dX3_move_254 rfl (s_getR F (ci := 3) (f := 1) dX3_move_255 rfl in_X3 (by decide) q468 (fun _ _ _ _ => ⟨_, rfl, rfl⟩) (s_iload F dX3_move_258 (s_iald F dX3_move_260 (s_iconst F dX3_move_261 (by decide) (s_icmp_eq F dX3_move_262 (by decide) (s_iconst F dX3_move_269 (by decide) (s_cut [0, 2, 3, 5] (sBX3_move_270 F hr hlk h38 h99 h176))) (s_iconst F dX3_move_265 (by decide) (s_goto F dX3_move_266 (by decide) (s_cut [0, 2, 3, 5] (sBX3_move_270 F hr hlk h38 h99 h176)))))))))))
def BX3_move_176 (Qr : Option AV → MM → Prop) (K38 K99 K176 : PT) (lv : LV) (st : List AV) (M : MM) : Prop := (i_iload 5 (i_push (.inl (.int 6)) (i_cmp (fun a b => a < b) (i_iload 3 (i_push (.inl (.int 3)) (i_iload 5 (i_II (fun a b => a * b) (i_II (fun a b => a >>> (b &&& 31)) (i_push (.inl (.int 7)) (i_II (fun a b => a &&& b) (i_istore 6 (i_push (.inl (.int 6)) (i_iload 2 (i_II (fun a b => a * b) (i_iload 5 (i_II (fun a b => a + b) (i_istore 7 (i_iload 6 (i_push (.inl (.int 6)) (i_cmp (fun a b => a < b) (i_aload 0 (i_iload 7 (i_iload 6 (i_callV 2 8 SX3_take (i_cut [0, 2, 3, 4, 5, 7] (BX3_move_252 Qr K38 K99 K176)))))) (i_iload 6 (i_push (.inl (.int 6)) (i_cmp (fun a b => a = b) (i_aload 0 (i_getR 8 9 (fun _ => 0) (i_iload 7 (i_push (.inl (.int (-1))) (i_iast (i_aload 0 (i_getR 8 10 (fun _ => 0) (i_iload 7 (i_push (.inl (.int 0)) (i_iast (i_aload 0 (i_getR 8 11 (fun _ => 0) (i_iload 7 (i_push (.inl (.int 0)) (i_bast (i_cut [0, 2, 3, 4, 5, 7] (BX3_move_252 Qr K38 K99 K176))))))))))))))))) (i_cut [0, 2, 3, 4, 5, 7] (BX3_move_252 Qr K38 K99 K176)))))))))))))))))))))) (i_iload 4 (i_iret Qr))))) lv st M
set_option maxRecDepth 100000 in
set_option maxHeartbeats 4000000 in
theorem sBX3_move_176 {p : Program} {l : Launch} {e : Env} {s : State} {m : MethodId} {args : Array Value} {below : List Frame} {meth : Method} {c : Code} {G : Nat → Nat → Nat} {cy dC : Nat → ClassId} {dI : Nat → Nat → Nat} {Qr : Option AV → MM → Prop} {K38 K99 K176 : PT} (F : FX p m c cX3_move 8 RX3 s args (AW G) G cy dC dI) (hr : meth.sig.returnType = (some .int)) (hlk : meth.locks = false) (h38 : SO p l e rmX3_move s m args below meth c 0 0 (MQ below (QI G cy dC dI Qr) args s 0 0 (AW G)) 8 (AW G) G cy dC dI 38 K38) (h99 : SO p l e rmX3_move s m args below meth c 0 0 (MQ below (QI G cy dC dI Qr) args s 0 0 (AW G)) 8 (AW G) G cy dC dI 99 K99) (h176 : SO p l e rmX3_move s m args below meth c 0 0 (MQ below (QI G cy dC dI Qr) args s 0 0 (AW G)) 8 (AW G) G cy dC dI 176 K176) : SO p l e rmX3_move s m args below meth c 0 0 (MQ below (QI G cy dC dI Qr) args s 0 0 (AW G)) 8 (AW G) G cy dC dI 176 (BX3_move_176 Qr K38 K99 K176) := by
  exact (s_iload F dX3_move_176 (s_bipush F dX3_move_178 (by decide) (s_icmp_ge F dX3_move_180 (by decide) (s_iload F dX3_move_279 (s_iret F dX3_move_281 hr hlk)) (s_iload_n F dX3_move_183 rfl (s_iconst F dX3_move_184 (by decide) (s_iload F dX3_move_185 (s_imul F dX3_move_187 (s_ishr F dX3_move_188 (s_bipush F dX3_move_189 (by decide) (s_iand F dX3_move_191 (s_istore F dX3_move_192 (by decide) (s_bipush F dX3_move_194 (by decide) (s_iload_n F dX3_move_196 rfl (s_imul F dX3_move_197 (s_iload F dX3_move_198 (s_iadd F dX3_move_200 (s_istore F dX3_move_201 (by decide) (s_iload F dX3_move_203 (s_bipush F dX3_move_205 (by decide) (s_icmp_ge F dX3_move_207 (by decide) (s_iload F dX3_move_221 (s_bipush F dX3_move_223 (by decide) (s_icmp_ne F dX3_move_225 (by decide) (s_cut [0, 2, 3, 4, 5, 7] (sBX3_move_252 F hr hlk h38 h99 h176)) (s_aload_n F dX3_move_228 rfl (s_getR F (ci := 3) (f := 1) dX3_move_229 rfl in_X3 (by decide) q468 (fun _ _ _ _ => ⟨_, rfl, rfl⟩) (s_iload F dX3_move_232 (s_iconst F dX3_move_234 (by decide) (s_iast F dX3_move_235 (s_aload_n F dX3_move_236 rfl (s_getR F (ci := 3) (f := 2) dX3_move_237 rfl in_X3 (by decide) q469 (fun _ _ _ _ => ⟨_, rfl, rfl⟩) (s_iload F dX3_move_240 (s_iconst F dX3_move_242 (by decide) (s_iast F dX3_move_243 (s_aload_n F dX3_move_244 rfl (s_getR F (ci := 3) (f := 3) dX3_move_245 rfl in_X3 (by decide) q470 (fun _ _ _ _ => ⟨_, rfl, rfl⟩) (s_iload F dX3_move_248 (s_iconst F dX3_move_250 (by decide) (s_bast F dX3_move_251 (s_cut [0, 2, 3, 4, 5, 7] (sBX3_move_252 F hr hlk h38 h99 h176)))))))))))))))))))) (s_aload_n F dX3_move_210 rfl (s_iload F dX3_move_211 (s_iload F dX3_move_213 (s_callVv F dX3_move_215 (ctX3_take l) (lw_V q653 q655 qs18 q4 q656) ⟨rfl, rfl⟩ (by decide +kernel) (by decide) ⟨Nat.zero_le _, Nat.zero_le _⟩ (ci := 3) rfl (fun _ _ _ _ => ⟨_, rfl⟩) (s_goto F dX3_move_218 (by decide) (s_cut [0, 2, 3, 4, 5, 7] (sBX3_move_252 F hr hlk h38 h99 h176)))))))))))))))))))))))))))
def BX3_move_99 (Qr : Option AV → MM → Prop) (K38 K99 K176 : PT) (lv : LV) (st : List AV) (M : MM) : Prop := (i_iload 6 (i_push (.inl (.int 40)) (i_cmp (fun a b => a < b) (i_aload 0 (i_getR 8 17 (fun _ => 0) (i_push (.inl (.int 40)) (i_iload 4 (i_II (fun a b => a * b) (i_iload 6 (i_II (fun a b => a + b) (i_aload 0 (i_getR 8 12 (fun _ => 0) (i_push (.inl (.int 40)) (i_iload 5 (i_II (fun a b => a * b) (i_iload 6 (i_II (fun a b => a + b) (i_lald (i_last (i_aload 0 (i_getR 8 18 (fun _ => 0) (i_push (.inl (.int 40)) (i_iload 4 (i_II (fun a b => a * b) (i_iload 6 (i_II (fun a b => a + b) (i_aload 0 (i_getR 8 13 (fun _ => 0) (i_push (.inl (.int 40)) (i_iload 5 (i_II (fun a b => a * b) (i_iload 6 (i_II (fun a b => a + b) (i_dald (i_dast (i_iinc 6 1 (i_cut [0, 1, 2, 3, 4, 5, 6] K99)))))))))))))))))))))))))))))))))) (i_iinc 4 1 (i_cut [0, 1, 2, 3, 4] K38))))) lv st M
set_option maxRecDepth 100000 in
set_option maxHeartbeats 4000000 in
theorem sBX3_move_99 {p : Program} {l : Launch} {e : Env} {s : State} {m : MethodId} {args : Array Value} {below : List Frame} {meth : Method} {c : Code} {G : Nat → Nat → Nat} {cy dC : Nat → ClassId} {dI : Nat → Nat → Nat} {Qr : Option AV → MM → Prop} {K38 K99 K176 : PT} (F : FX p m c cX3_move 8 RX3 s args (AW G) G cy dC dI) (hr : meth.sig.returnType = (some .int)) (hlk : meth.locks = false) (h38 : SO p l e rmX3_move s m args below meth c 0 0 (MQ below (QI G cy dC dI Qr) args s 0 0 (AW G)) 8 (AW G) G cy dC dI 38 K38) (h99 : SO p l e rmX3_move s m args below meth c 0 0 (MQ below (QI G cy dC dI Qr) args s 0 0 (AW G)) 8 (AW G) G cy dC dI 99 K99) (h176 : SO p l e rmX3_move s m args below meth c 0 0 (MQ below (QI G cy dC dI Qr) args s 0 0 (AW G)) 8 (AW G) G cy dC dI 176 K176) : SO p l e rmX3_move s m args below meth c 0 0 (MQ below (QI G cy dC dI Qr) args s 0 0 (AW G)) 8 (AW G) G cy dC dI 99 (BX3_move_99 Qr K38 K99 K176) := by
  exact (s_iload F dX3_move_99 (s_bipush F dX3_move_101 (by decide) (s_icmp_ge F dX3_move_103 (by decide) (s_iinc F dX3_move_164 (by decide) (by decide) (s_goto F dX3_move_167 (by decide) (s_cut [0, 1, 2, 3, 4] h38))) (s_aload_n F dX3_move_106 rfl (s_getR F (ci := 3) (f := 9) dX3_move_107 rfl in_X3 (by decide) q476 (fun _ _ _ _ => ⟨_, rfl, rfl⟩) (s_bipush F dX3_move_110 (by decide) (s_iload F dX3_move_112 (s_imul F dX3_move_114 (s_iload F dX3_move_115 (s_iadd F dX3_move_117 (s_aload_n F dX3_move_118 rfl (s_getR F (ci := 3) (f := 4) dX3_move_119 rfl in_X3 (by decide) q471 (fun _ _ _ _ => ⟨_, rfl, rfl⟩) (s_bipush F dX3_move_122 (by decide) (s_iload F dX3_move_124 (s_imul F dX3_move_126 (s_iload F dX3_move_127 (s_iadd F dX3_move_129 (s_lald F dX3_move_130 (s_last F dX3_move_131 (s_aload_n F dX3_move_132 rfl (s_getR F (ci := 3) (f := 10) dX3_move_133 rfl in_X3 (by decide) q477 (fun _ _ _ _ => ⟨_, rfl, rfl⟩) (s_bipush F dX3_move_136 (by decide) (s_iload F dX3_move_138 (s_imul F dX3_move_140 (s_iload F dX3_move_141 (s_iadd F dX3_move_143 (s_aload_n F dX3_move_144 rfl (s_getR F (ci := 3) (f := 5) dX3_move_145 rfl in_X3 (by decide) q472 (fun _ _ _ _ => ⟨_, rfl, rfl⟩) (s_bipush F dX3_move_148 (by decide) (s_iload F dX3_move_150 (s_imul F dX3_move_152 (s_iload F dX3_move_153 (s_iadd F dX3_move_155 (s_dald F dX3_move_156 (s_dast F dX3_move_157 (s_iinc F dX3_move_158 (by decide) (by decide) (s_goto F dX3_move_161 (by decide) (s_cut [0, 1, 2, 3, 4, 5, 6] h99))))))))))))))))))))))))))))))))))))))
def BX3_move_38 (Qr : Option AV → MM → Prop) (K38 K99 K176 : PT) (lv : LV) (st : List AV) (M : MM) : Prop := (i_iload 4 (i_push (.inl (.int 6)) (i_cmp (fun a b => a < b) (i_push (.inl (.int 6)) (i_iload 1 (i_II (fun a b => a * b) (i_iload 4 (i_II (fun a b => a + b) (i_istore 5 (i_aload 0 (i_getR 8 14 (fun _ => 0) (i_iload 4 (i_aload 0 (i_getR 8 9 (fun _ => 0) (i_iload 5 (i_iald 0 (i_iast (i_aload 0 (i_getR 8 15 (fun _ => 0) (i_iload 4 (i_aload 0 (i_getR 8 10 (fun _ => 0) (i_iload 5 (i_iald 0 (i_iast (i_aload 0 (i_getR 8 16 (fun _ => 0) (i_iload 4 (i_aload 0 (i_getR 8 11 (fun _ => 0) (i_iload 5 (i_iald 1 (i_bast (i_push (.inl (.int 0)) (i_istore 6 (i_cut [0, 1, 2, 3, 4, 5, 6] K99))))))))))))))))))))))))))))))))) (i_push (.inl (.int 0)) (i_istore 4 (i_push (.inl (.int 0)) (i_istore 5 (i_cut [0, 2, 3, 4, 5] K176)))))))) lv st M
set_option maxRecDepth 100000 in
set_option maxHeartbeats 4000000 in
theorem sBX3_move_38 {p : Program} {l : Launch} {e : Env} {s : State} {m : MethodId} {args : Array Value} {below : List Frame} {meth : Method} {c : Code} {G : Nat → Nat → Nat} {cy dC : Nat → ClassId} {dI : Nat → Nat → Nat} {Qr : Option AV → MM → Prop} {K38 K99 K176 : PT} (F : FX p m c cX3_move 8 RX3 s args (AW G) G cy dC dI) (hr : meth.sig.returnType = (some .int)) (hlk : meth.locks = false) (h38 : SO p l e rmX3_move s m args below meth c 0 0 (MQ below (QI G cy dC dI Qr) args s 0 0 (AW G)) 8 (AW G) G cy dC dI 38 K38) (h99 : SO p l e rmX3_move s m args below meth c 0 0 (MQ below (QI G cy dC dI Qr) args s 0 0 (AW G)) 8 (AW G) G cy dC dI 99 K99) (h176 : SO p l e rmX3_move s m args below meth c 0 0 (MQ below (QI G cy dC dI Qr) args s 0 0 (AW G)) 8 (AW G) G cy dC dI 176 K176) : SO p l e rmX3_move s m args below meth c 0 0 (MQ below (QI G cy dC dI Qr) args s 0 0 (AW G)) 8 (AW G) G cy dC dI 38 (BX3_move_38 Qr K38 K99 K176) := by
  exact (s_iload F dX3_move_38 (s_bipush F dX3_move_40 (by decide) (s_icmp_ge F dX3_move_42 (by decide) (s_iconst F dX3_move_170 (by decide) (s_istore F dX3_move_171 (by decide) (s_iconst F dX3_move_173 (by decide) (s_istore F dX3_move_174 (by decide) (s_cut [0, 2, 3, 4, 5] h176))))) (s_bipush F dX3_move_45 (by decide) (s_iload_n F dX3_move_47 rfl (s_imul F dX3_move_48 (s_iload F dX3_move_49 (s_iadd F dX3_move_51 (s_istore F dX3_move_52 (by decide) (s_aload_n F dX3_move_54 rfl (s_getR F (ci := 3) (f := 6) dX3_move_55 rfl in_X3 (by decide) q473 (fun _ _ _ _ => ⟨_, rfl, rfl⟩) (s_iload F dX3_move_58 (s_aload_n F dX3_move_60 rfl (s_getR F (ci := 3) (f := 1) dX3_move_61 rfl in_X3 (by decide) q468 (fun _ _ _ _ => ⟨_, rfl, rfl⟩) (s_iload F dX3_move_64 (s_iald F dX3_move_66 (s_iast F dX3_move_67 (s_aload_n F dX3_move_68 rfl (s_getR F (ci := 3) (f := 7) dX3_move_69 rfl in_X3 (by decide) q474 (fun _ _ _ _ => ⟨_, rfl, rfl⟩) (s_iload F dX3_move_72 (s_aload_n F dX3_move_74 rfl (s_getR F (ci := 3) (f := 2) dX3_move_75 rfl in_X3 (by decide) q469 (fun _ _ _ _ => ⟨_, rfl, rfl⟩) (s_iload F dX3_move_78 (s_iald F dX3_move_80 (s_iast F dX3_move_81 (s_aload_n F dX3_move_82 rfl (s_getR F (ci := 3) (f := 8) dX3_move_83 rfl in_X3 (by decide) q475 (fun _ _ _ _ => ⟨_, rfl, rfl⟩) (s_iload F dX3_move_86 (s_aload_n F dX3_move_88 rfl (s_getR F (ci := 3) (f := 3) dX3_move_89 rfl in_X3 (by decide) q470 (fun _ _ _ _ => ⟨_, rfl, rfl⟩) (s_iload F dX3_move_92 (s_zald F dX3_move_94 (s_bast F dX3_move_95 (s_iconst F dX3_move_96 (by decide) (s_istore F dX3_move_97 (by decide) (s_cut [0, 1, 2, 3, 4, 5, 6] h99))))))))))))))))))))))))))))))))))))
def BX3_move_0 (Qr : Option AV → MM → Prop) (K38 K99 K176 : PT) (lv : LV) (st : List AV) (M : MM) : Prop := (i_aload 0 (i_push (.inl (.int 0)) (i_putI 8 0 (i_iload 1 (i_push (.inl (.int 0)) (i_push (.inl (.int 3)) (i_call 3 SX3_in (i_if (fun a => a = 0) (i_push (.inl (.int (-1))) (i_iret Qr)) (i_iload 2 (i_push (.inl (.int 0)) (i_push (.inl (.int 3)) (i_call 3 SX3_in (i_if (fun a => a = 0) (i_push (.inl (.int (-1))) (i_iret Qr)) (i_iload 3 (i_push (.inl (.int 0)) (i_push (.inl (.int 262143)) (i_call 3 SX3_in (i_if (fun a => a = 0) (i_push (.inl (.int (-1))) (i_iret Qr)) (i_push (.inl (.int 0)) (i_istore 4 (i_cut [0, 1, 2, 3, 4] K38))))))))))))))))))))) lv st M
set_option maxRecDepth 100000 in
set_option maxHeartbeats 4000000 in
theorem sBX3_move_0 {p : Program} {l : Launch} {e : Env} {s : State} {m : MethodId} {args : Array Value} {below : List Frame} {meth : Method} {c : Code} {G : Nat → Nat → Nat} {cy dC : Nat → ClassId} {dI : Nat → Nat → Nat} {Qr : Option AV → MM → Prop} {K38 K99 K176 : PT} (F : FX p m c cX3_move 8 RX3 s args (AW G) G cy dC dI) (hr : meth.sig.returnType = (some .int)) (hlk : meth.locks = false) (h38 : SO p l e rmX3_move s m args below meth c 0 0 (MQ below (QI G cy dC dI Qr) args s 0 0 (AW G)) 8 (AW G) G cy dC dI 38 K38) (h99 : SO p l e rmX3_move s m args below meth c 0 0 (MQ below (QI G cy dC dI Qr) args s 0 0 (AW G)) 8 (AW G) G cy dC dI 99 K99) (h176 : SO p l e rmX3_move s m args below meth c 0 0 (MQ below (QI G cy dC dI Qr) args s 0 0 (AW G)) 8 (AW G) G cy dC dI 176 K176) : SO p l e rmX3_move s m args below meth c 0 0 (MQ below (QI G cy dC dI Qr) args s 0 0 (AW G)) 8 (AW G) G cy dC dI 0 (BX3_move_0 Qr K38 K99 K176) := by
  exact (s_aload_n F dX3_move_0 rfl (s_iconst F dX3_move_1 (by decide) (s_putI F (ci := 3) dX3_move_2 rfl in_X3 tyX3 tyX3_ok nmX3 (by decide) q467 rfl (by decide +kernel) (fun _ _ _ _ _ => ⟨_, rfl, Nat.le_of_ble_eq_true rfl, rfl⟩) (s_iload_n F dX3_move_5 rfl (s_iconst F dX3_move_6 (by decide) (s_iconst F dX3_move_7 (by decide) (s_callSi F dX3_move_8 (ctX3_in l) (lw_S q532 q533 q4 q534) ⟨rfl, rfl⟩ (by decide +kernel) (by decide) ⟨Nat.zero_le _, Nat.zero_le _⟩ (s_if_eq F dX3_move_11 (by decide) (s_iconst F dX3_move_33 (by decide) (s_iret F dX3_move_34 hr hlk)) (s_iload_n F dX3_move_14 rfl (s_iconst F dX3_move_15 (by decide) (s_iconst F dX3_move_16 (by decide) (s_callSi F dX3_move_17 (ctX3_in l) (lw_S q532 q533 q4 q534) ⟨rfl, rfl⟩ (by decide +kernel) (by decide) ⟨Nat.zero_le _, Nat.zero_le _⟩ (s_if_eq F dX3_move_20 (by decide) (s_iconst F dX3_move_33 (by decide) (s_iret F dX3_move_34 hr hlk)) (s_iload_n F dX3_move_23 rfl (s_iconst F dX3_move_24 (by decide) (s_ldc F dX3_move_25 q652 (s_callSi F dX3_move_27 (ctX3_in l) (lw_S q532 q533 q4 q534) ⟨rfl, rfl⟩ (by decide +kernel) (by decide) ⟨Nat.zero_le _, Nat.zero_le _⟩ (s_if_ne F dX3_move_30 (by decide) (s_iconst F dX3_move_35 (by decide) (s_istore F dX3_move_36 (by decide) (s_cut [0, 1, 2, 3, 4] h38))) (s_iconst F dX3_move_33 (by decide) (s_iret F dX3_move_34 hr hlk))))))))))))))))))))
set_option maxRecDepth 100000 in
set_option maxHeartbeats 4000000 in
theorem ctX3_move (l : Launch) : CI l yX3_move (ws_ yX3_move cX3_move 8 (some .int)) rmX3_move SX3_move := by
  refine mk_CI (by decide) ?_
  intro p e s m args below meth c G cy dC dI F hr hlk as M post hS
  unfold SX3_move at hS
  split at hS
  · rename_i t i0 a b r
    obtain ⟨rfl, rfl, hS⟩ := hS
    have hN : ∃ N, N = z0 M := ⟨_, rfl⟩
    obtain ⟨N, hN⟩ := hN
    rw [← hN] at hS
    by_cases hbad : isMp a = false ∨ isMp b = false ∨ inR r 0 262143 = false
    · refine ⟨by simp only [lk, wd, rm1, rm2, pick, popn, catS, pushO, aLV, cond_true, cond_false, Bool.not_true, Bool.not_false, Bool.and_true, Bool.and_false, Bool.true_and, Bool.false_and, eq_self, true_and, and_true, Nat.reduceBEq, Nat.reduceAdd, reduceIte, Nat.reduceEqDiff]; decide, sBX3_move_0 F hr hlk SO_no SO_no SO_no _ _ _ ?_⟩
      simp only [BX3_move_0, BX3_move_38, BX3_move_99, BX3_move_176, BX3_move_252, BX3_move_270, i_push, i_iload, i_aload, i_istore, i_iinc, i_II, i_if, i_cmp, i_getR, i_putI, i_iald, i_lald, i_dald, i_iast, i_bast, i_last, i_dast, i_call, i_callV, i_iret, i_cut, lk, wd, rm1, rm2, pick, popn, catS, pushO, aLV, cond_true, cond_false, Bool.not_true, Bool.not_false, Bool.and_true, Bool.and_false, Bool.true_and, Bool.false_and, eq_self, true_and, and_true, Nat.reduceBEq, Nat.reduceAdd, reduceIte, Nat.reduceEqDiff, SX3_in, SX3_take]
      try simp only [tCnt, aK, aN, aR, eq_self, true_and, and_true, Nat.reduceLeDiff, Nat.reduceEqDiff]
      rw [show m_move N a b r = (-1, N) from if_pos hbad] at hS
      simp only [b2i_0, Bool.not_eq_true, Bool.not_eq_false]
      simp only [inR_mp]
      simp only [show sI M 8 0 0 0 = z0 M from rfl, ← hN]
      (repeat' (first | with_reducible assumption | apply And.intro | intro _)) <;> (first | with_reducible assumption | decide | simp_all)
    · have hx : m_move N a b r = m_mv (m_sv N (cl a) 6) (cl b) r 6 := if_neg hbad
      rw [hx] at hS
      simp only [not_or, Bool.not_eq_false] at hbad
      obtain ⟨ha, hb, hr0⟩ := hbad
      have hma := ha
      have hmb := hb
      obtain ⟨a', ha', rfl⟩ := isMp_in ha
      obtain ⟨b', hb', rfl⟩ := isMp_in hb
      rw [show cl (nI a') = a' from ncl (by omega), show cl (nI b') = b' from ncl (by omega)] at hS
      have h176 : ∀ n, SO p l e rmX3_move s m args below meth c 0 0 (MQ below (QI G cy dC dI post) args s 0 0 (AW G)) 8 (AW G) G cy dC dI 176 ((fun (n : Nat) (lv : LV) (st : List AV) (M' : MM) => ∃ f : Nat, f ≤ 6 ∧ n = 6 - f ∧ lv = [(0, .inr (8, 0)), (2, .inl (.int (nI b'))), (3, .inl (.int r)), (4, .inl (.int (m_mv (m_sv N a' 6) b' r f).1)), (5, .inl (.int (nI f)))] ∧ st = [] ∧ M' = (m_mv (m_sv N a' 6) b' r f).2) n) := by
        refine SO_loop (fun K => BX3_move_176 post (fun _ _ _ => False) (fun _ _ _ => False) K) (fun K hK => sBX3_move_176 F hr hlk SO_no SO_no hK) (fun (n : Nat) (lv : LV) (st : List AV) (M' : MM) => ∃ f : Nat, f ≤ 6 ∧ n = 6 - f ∧ lv = [(0, .inr (8, 0)), (2, .inl (.int (nI b'))), (3, .inl (.int r)), (4, .inl (.int (m_mv (m_sv N a' 6) b' r f).1)), (5, .inl (.int (nI f)))] ∧ st = [] ∧ M' = (m_mv (m_sv N a' 6) b' r f).2) ?_
        intro n lv st M' ⟨f, hf, hn, e1, e2, e3⟩
        subst e1; subst e2; subst e3
        simp only [BX3_move_0, BX3_move_38, BX3_move_99, BX3_move_176, BX3_move_252, BX3_move_270, i_push, i_iload, i_aload, i_istore, i_iinc, i_II, i_if, i_cmp, i_getR, i_putI, i_iald, i_lald, i_dald, i_iast, i_bast, i_last, i_dast, i_call, i_callV, i_iret, i_cut, lk, wd, rm1, rm2, pick, popn, catS, pushO, aLV, cond_true, cond_false, Bool.not_true, Bool.not_false, Bool.and_true, Bool.and_false, Bool.true_and, Bool.false_and, eq_self, true_and, and_true, Nat.reduceBEq, Nat.reduceAdd, reduceIte, Nat.reduceEqDiff, SX3_in, SX3_take]
        try simp only [tCnt, aK, aN, aR, eq_self, true_and, and_true, Nat.reduceLeDiff, Nat.reduceEqDiff]
        refine ⟨fun c => ?_, fun c => ?_⟩
        · have hlt : f < 6 := (nI_ltI (by omega) (by omega)).mp c
          have hpl := isPl_nI (x := 6 * b' + f) (by omega)
          have hv := vin (n := 24) (i := 6 * b' + f) (by omega) (by omega)
          simp only [ix6, show (r >>> (3 * nI f &&& 31)) &&& 7 = dig r f from rfl]
          simp only [show cl (nI (6 * b' + f)) = 6 * b' + f from ncl (by omega), show (nI (6 * b' + f)).toNatClampNeg = 6 * b' + f from ncl (by omega), nar0]
          obtain ⟨j, hj, ej⟩ := dig_in r f
          have nx : ∀ (X : MM) (x : Int32), X = m_md (m_mv (m_sv N a' 6) b' r f).2 (6 * b' + f) (dig r f) → (if X.1 9 0 (6 * b' + f) = -1 then 0 else 1) = x → ∃ n', n' < n ∧ ∃ f_1, f_1 ≤ 6 ∧ n' = 6 - f_1 ∧ [(0, (Sum.inr (8, 0) : AV)), (2, .inl (.int (nI b'))), (3, .inl (.int r)), (4, .inl (.int ((m_mv (m_sv N a' 6) b' r f).1 + x))), (5, .inl (.int (nI f + 1)))] = [(0, .inr (8, 0)), (2, .inl (.int (nI b'))), (3, .inl (.int r)), (4, .inl (.int (m_mv (m_sv N a' 6) b' r f_1).1)), (5, .inl (.int (nI f_1)))] ∧ X = (m_mv (m_sv N a' 6) b' r f_1).2 := fun X x hX hx =>
            ⟨n - 1, by omega, f + 1, by omega, by omega, by rw [nI_1, ← hx, hX]; rfl, hX⟩
          refine ⟨fun c2 => ?_, fun c2 => ?_⟩
          · have hj6 : j < 6 := by
              rw [ej] at c2
              exact (nI_ltI (a := j) (b := 6) (by omega) (by omega)).mp c2
            have eX : m_take (m_mv (m_sv N a' 6) b' r f).2 (6 * b' + f) j = m_md (m_mv (m_sv N a' 6) b' r f).2 (6 * b' + f) (dig r f) := by
              unfold m_md
              rw [if_pos c2, ej, show cl (nI j) = j from ncl (by omega)]
            (repeat (first | refine And.intro hv ?_ | refine And.intro hpl ?_ | refine And.intro (by decide) ?_))
            refine ⟨j, hj6, ej, ?_⟩
            (repeat (first | refine And.intro hv ?_ | refine And.intro (by decide) ?_))
            exact ⟨fun c3 => nx _ 0 eX (if_pos c3), fun c3 => nx _ 1 eX (if_neg c3)⟩
          · refine ⟨fun c3 => ?_, fun c3 => ?_⟩
            · have eX : sI (sI (sI (m_mv (m_sv N a' 6) b' r f).2 9 0 (6 * b' + f) (-1)) 10 0 (6 * b' + f) 0) 11 0 (6 * b' + f) 0 = m_md (m_mv (m_sv N a' 6) b' r f).2 (6 * b' + f) (dig r f) := by
                unfold m_md
                rw [if_neg c2, if_pos c3]
              (repeat (first | refine And.intro hv ?_ | refine And.intro (by decide) ?_))
              exact ⟨fun c4 => nx _ 0 eX (if_pos c4), fun c4 => nx _ 1 eX (if_neg c4)⟩
            · have eX : (m_mv (m_sv N a' 6) b' r f).2 = m_md (m_mv (m_sv N a' 6) b' r f).2 (6 * b' + f) (dig r f) := by
                unfold m_md
                rw [if_neg c2, if_neg c3]
              (repeat (first | refine And.intro hv ?_ | refine And.intro (by decide) ?_))
              exact ⟨fun c4 => nx _ 0 eX (if_pos c4), fun c4 => nx _ 1 eX (if_neg c4)⟩
        · have hge : f = 6 := by
            have := mt (nI_ltI (a := f) (b := 6) (by omega) (by omega)).mpr c
            omega
          subst hge
          exact hS
      have h99 : ∀ K : PT, SO p l e rmX3_move s m args below meth c 0 0 (MQ below (QI G cy dC dI post) args s 0 0 (AW G)) 8 (AW G) G cy dC dI 38 (K) → ∀ n, SO p l e rmX3_move s m args below meth c 0 0 (MQ below (QI G cy dC dI post) args s 0 0 (AW G)) 8 (AW G) G cy dC dI 99 ((fun (n : Nat) (lv : LV) (st : List AV) (M' : MM) => ∃ f i : Nat, f < 6 ∧ i ≤ 40 ∧ n = 40 - i ∧ lv = [(0, .inr (8, 0)), (1, .inl (.int (nI a'))), (2, .inl (.int (nI b'))), (3, .inl (.int r)), (4, .inl (.int (nI f))), (5, .inl (.int (nI (6 * a' + f)))), (6, .inl (.int (nI i)))] ∧ st = [] ∧ M' = svF (sv1 (m_sv N a' f) (6 * a' + f) f) (6 * a' + f) f i ∧ K [(0, .inr (8, 0)), (1, .inl (.int (nI a'))), (2, .inl (.int (nI b'))), (3, .inl (.int r)), (4, .inl (.int (nI (f + 1))))] [] (m_sv N a' (f + 1))) n) := by
        intro K hK
        refine SO_loop (fun K2 => BX3_move_99 post K K2 (fun _ _ _ => False)) (fun K2 hK2 => sBX3_move_99 F hr hlk hK hK2 SO_no) (fun (n : Nat) (lv : LV) (st : List AV) (M' : MM) => ∃ f i : Nat, f < 6 ∧ i ≤ 40 ∧ n = 40 - i ∧ lv = [(0, .inr (8, 0)), (1, .inl (.int (nI a'))), (2, .inl (.int (nI b'))), (3, .inl (.int r)), (4, .inl (.int (nI f))), (5, .inl (.int (nI (6 * a' + f)))), (6, .inl (.int (nI i)))] ∧ st = [] ∧ M' = svF (sv1 (m_sv N a' f) (6 * a' + f) f) (6 * a' + f) f i ∧ K [(0, .inr (8, 0)), (1, .inl (.int (nI a'))), (2, .inl (.int (nI b'))), (3, .inl (.int r)), (4, .inl (.int (nI (f + 1))))] [] (m_sv N a' (f + 1))) ?_
        intro n lv st M' ⟨f, i, hf, hi, hn, e1, e2, e3, hk⟩
        subst e1; subst e2; subst e3
        generalize hX : sv1 (m_sv N a' f) (6 * a' + f) f = X
        have hk' : K [(0, .inr (8, 0)), (1, .inl (.int (nI a'))), (2, .inl (.int (nI b'))), (3, .inl (.int r)), (4, .inl (.int (nI (f + 1))))] [] (svF X (6 * a' + f) f 40) := by rw [← hX]; exact hk
        simp only [BX3_move_0, BX3_move_38, BX3_move_99, BX3_move_176, BX3_move_252, BX3_move_270, i_push, i_iload, i_aload, i_istore, i_iinc, i_II, i_if, i_cmp, i_getR, i_putI, i_iald, i_lald, i_dald, i_iast, i_bast, i_last, i_dast, i_call, i_callV, i_iret, i_cut, lk, wd, rm1, rm2, pick, popn, catS, pushO, aLV, cond_true, cond_false, Bool.not_true, Bool.not_false, Bool.and_true, Bool.and_false, Bool.true_and, Bool.false_and, eq_self, true_and, and_true, Nat.reduceBEq, Nat.reduceAdd, reduceIte, Nat.reduceEqDiff, SX3_in, SX3_take]
        try simp only [tCnt, aK, aN, aR, eq_self, true_and, and_true, Nat.reduceLeDiff, Nat.reduceEqDiff]
        refine ⟨fun c => ?_, fun c => ?_⟩
        · have hlt : i < 40 := (nI_ltI (by omega) (by omega)).mp c
          simp only [show (40 : Int32) * nI f + nI i = nI (40 * f + i) from by rw [show (40 : Int32) = nI 40 from rfl, pk_mul, nI_add], show (40 : Int32) * nI (6 * a' + f) + nI i = nI (40 * (6 * a' + f) + i) from by rw [show (40 : Int32) = nI 40 from rfl, pk_mul, nI_add], show (nI (40 * f + i)).toNatClampNeg = 40 * f + i from ncl (by omega), show (nI (40 * (6 * a' + f) + i)).toNatClampNeg = 40 * (6 * a' + f) + i from ncl (by omega)]
          have hva := vin (n := 240) (i := 40 * f + i) (by omega) (by omega)
          have hvb := vin (n := 960) (i := 40 * (6 * a' + f) + i) (by omega) (by omega)
          (repeat (first | refine And.intro hva ?_ | refine And.intro hvb ?_ | refine And.intro (by decide) ?_))
          refine ⟨n - 1, by omega, f, i + 1, hf, by omega, by omega, by rw [nI_1], ?_, hk⟩
          rw [hX, ← svF_1]
          have hh := svF_h X (6 * a' + f) f i (40 * (6 * a' + f) + i)
          rw [hh.1]
          congr 1
        · have hge : i = 40 := by
            have := mt (nI_ltI (a := i) (b := 40) (by omega) (by omega)).mpr c
            omega
          subst hge
          rw [nI_1]
          exact hk'
      have h38 : ∀ n, SO p l e rmX3_move s m args below meth c 0 0 (MQ below (QI G cy dC dI post) args s 0 0 (AW G)) 8 (AW G) G cy dC dI 38 ((fun (n : Nat) (lv : LV) (st : List AV) (M' : MM) => ∃ f : Nat, f ≤ 6 ∧ n = 6 - f ∧ lv = [(0, .inr (8, 0)), (1, .inl (.int (nI a'))), (2, .inl (.int (nI b'))), (3, .inl (.int r)), (4, .inl (.int (nI f)))] ∧ st = [] ∧ M' = m_sv N a' f) n) := by
        refine SO_loop (fun K => BX3_move_38 post K (fun lv st M' => ∃ n, (fun (n : Nat) (lv : LV) (st : List AV) (M' : MM) => ∃ f i : Nat, f < 6 ∧ i ≤ 40 ∧ n = 40 - i ∧ lv = [(0, .inr (8, 0)), (1, .inl (.int (nI a'))), (2, .inl (.int (nI b'))), (3, .inl (.int r)), (4, .inl (.int (nI f))), (5, .inl (.int (nI (6 * a' + f)))), (6, .inl (.int (nI i)))] ∧ st = [] ∧ M' = svF (sv1 (m_sv N a' f) (6 * a' + f) f) (6 * a' + f) f i ∧ K [(0, .inr (8, 0)), (1, .inl (.int (nI a'))), (2, .inl (.int (nI b'))), (3, .inl (.int r)), (4, .inl (.int (nI (f + 1))))] [] (m_sv N a' (f + 1))) n lv st M') (fun lv st M' => ∃ n, (fun (n : Nat) (lv : LV) (st : List AV) (M' : MM) => ∃ f : Nat, f ≤ 6 ∧ n = 6 - f ∧ lv = [(0, .inr (8, 0)), (2, .inl (.int (nI b'))), (3, .inl (.int r)), (4, .inl (.int (m_mv (m_sv N a' 6) b' r f).1)), (5, .inl (.int (nI f)))] ∧ st = [] ∧ M' = (m_mv (m_sv N a' 6) b' r f).2) n lv st M')) (fun K hK => sBX3_move_38 F hr hlk hK (SO_or (h99 K hK)) (SO_or h176)) (fun (n : Nat) (lv : LV) (st : List AV) (M' : MM) => ∃ f : Nat, f ≤ 6 ∧ n = 6 - f ∧ lv = [(0, .inr (8, 0)), (1, .inl (.int (nI a'))), (2, .inl (.int (nI b'))), (3, .inl (.int r)), (4, .inl (.int (nI f)))] ∧ st = [] ∧ M' = m_sv N a' f) ?_
        intro n lv st M' ⟨f, hf, hn, e1, e2, e3⟩
        subst e1; subst e2; subst e3
        simp only [BX3_move_0, BX3_move_38, BX3_move_99, BX3_move_176, BX3_move_252, BX3_move_270, i_push, i_iload, i_aload, i_istore, i_iinc, i_II, i_if, i_cmp, i_getR, i_putI, i_iald, i_lald, i_dald, i_iast, i_bast, i_last, i_dast, i_call, i_callV, i_iret, i_cut, lk, wd, rm1, rm2, pick, popn, catS, pushO, aLV, cond_true, cond_false, Bool.not_true, Bool.not_false, Bool.and_true, Bool.and_false, Bool.true_and, Bool.false_and, eq_self, true_and, and_true, Nat.reduceBEq, Nat.reduceAdd, reduceIte, Nat.reduceEqDiff, SX3_in, SX3_take]
        try simp only [tCnt, aK, aN, aR, eq_self, true_and, and_true, Nat.reduceLeDiff, Nat.reduceEqDiff]
        refine ⟨fun c => ?_, fun c => ?_⟩
        · have hlt : f < 6 := (nI_ltI (by omega) (by omega)).mp c
          have hv := vin (n := 24) (i := 6 * a' + f) (by omega) (by omega)
          have hvf := vin (n := 6) (i := f) (by omega) (by omega)
          simp only [ix6]
          simp only [show (nI (6 * a' + f)).toNatClampNeg = 6 * a' + f from ncl (by omega), show (nI f).toNatClampNeg = f from ncl (by omega), sI_o (show ¬ (10 : Nat) = 14 by decide), sI_o (show ¬ (11 : Nat) = 14 by decide), sI_o (show ¬ (11 : Nat) = 15 by decide)]
          (repeat (first | refine And.intro hv ?_ | refine And.intro hvf ?_ | refine And.intro (by decide) ?_))
          exact ⟨40, f, 0, hlt, by omega, by omega, rfl, by rw [svF_0]; rfl, n - 1, by omega, f + 1, by omega, by omega, rfl, rfl⟩
        · have hge : f = 6 := by
            have := mt (nI_ltI (a := f) (b := 6) (by omega) (by omega)).mpr c
            omega
          subst hge
          exact ⟨6, 0, by omega, by omega, rfl, rfl⟩
      refine ⟨by simp only [lk, wd, rm1, rm2, pick, popn, catS, pushO, aLV, cond_true, cond_false, Bool.not_true, Bool.not_false, Bool.and_true, Bool.and_false, Bool.true_and, Bool.false_and, eq_self, true_and, and_true, Nat.reduceBEq, Nat.reduceAdd, reduceIte, Nat.reduceEqDiff]; decide, sBX3_move_0 F hr hlk (SO_or h38) SO_no (SO_or h176) _ _ _ ?_⟩
      simp only [BX3_move_0, BX3_move_38, BX3_move_99, BX3_move_176, BX3_move_252, BX3_move_270, i_push, i_iload, i_aload, i_istore, i_iinc, i_II, i_if, i_cmp, i_getR, i_putI, i_iald, i_lald, i_dald, i_iast, i_bast, i_last, i_dast, i_call, i_callV, i_iret, i_cut, lk, wd, rm1, rm2, pick, popn, catS, pushO, aLV, cond_true, cond_false, Bool.not_true, Bool.not_false, Bool.and_true, Bool.and_false, Bool.true_and, Bool.false_and, eq_self, true_and, and_true, Nat.reduceBEq, Nat.reduceAdd, reduceIte, Nat.reduceEqDiff, SX3_in, SX3_take]
      try simp only [tCnt, aK, aN, aR, eq_self, true_and, and_true, Nat.reduceLeDiff, Nat.reduceEqDiff]
      simp only [b2i_0]
      simp only [inR_mp]
      simp only [show sI M 8 0 0 0 = z0 M from rfl, ← hN]
      simp only [hma, hmb, hr0, not_true_eq_false, not_false_eq_true, false_implies, true_implies, true_and, and_true]
      exact ⟨by decide, 6, 0, by omega, by omega, by first | exact ⟨rfl, trivial⟩ | exact ⟨rfl, rfl⟩ | rfl⟩
  · exact hS.elim
