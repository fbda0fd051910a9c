def cpJ (bk : Bool) (n k : Nat) : Nat := if bk then n - 1 - k else k
/-- the reference's copying, k steps of it: from f at a into g at b -/
def m_cp (N : MM) (f a g b n : Nat) (bk : Bool) : Nat → MM
  | 0 => N
  | k + 1 => sI (sD (sL (m_cp N f a g b n bk k) 12 0 (40 * g + b + cpJ bk n k) ((m_cp N f a g b n bk k).2.1 12 0 (40 * f + a + cpJ bk n k))) 13 0 (40 * g + b + cpJ bk n k) ((m_cp N f a g b n bk k).2.2 13 0 (40 * f + a + cpJ bk n k))) 8 0 16 ((m_cp N f a g b n bk k).1 8 0 16 + 1)
def cpT (N : MM) (f a g b n : Nat) (bk : Bool) (kg : Int32) (k : Nat) : Bool := mTak N kg ((m_cp N f a g b n bk k).2.1 12 0 (40 * f + a + cpJ bk n k))
theorem mcp_t (N : MM) (f a g b n : Nat) (bk : Bool) {t : Nat} (h : ¬ t = 8) : ∀ k, (m_cp N f a g b n bk k).1 t = N.1 t
  | 0 => rfl
  | k + 1 => by
    unfold m_cp
    rw [sI_o h]
    exact mcp_t N f a g b n bk h k
theorem mcp_src {N : MM} {f a g b n : Nat} {bk : Bool} (hne : ¬ f = g) (hb : b + n ≤ 40) {x : Nat} (hx : x < 40) : ∀ k, k ≤ n → (m_cp N f a g b n bk k).2.1 12 0 (40 * f + x) = N.2.1 12 0 (40 * f + x)
  | 0, _ => rfl
  | k + 1, hk => by
    unfold m_cp
    show (sL _ 12 0 _ _).2.1 12 0 _ = _
    simp only [sL]
    have hj : cpJ bk n k < n := by unfold cpJ; split <;> omega
    rw [if_neg (by omega)]
    exact mcp_src hne hb hx k (by omega)
def m_copy (N : MM) (f a g b n : Int32) : Int32 × MM := if isPl f = false ∨ isPl g = false then (-1, N) else if mNone N (cl f) = true ∨ mNone N (cl g) = true then (-11, sI N 8 0 16 0) else if ¬ (N.1 9 0 (cl f) < 7 ↔ N.1 9 0 (cl g) < 7) ∨ N.1 9 0 (cl f) < 7 ∧ ¬ N.1 9 0 (cl f) = N.1 9 0 (cl g) then (-13, sI N 8 0 16 0) else if n < 0 ∨ mRea a n (N.1 10 0 (cl f)) = false ∨ mRea b n (N.1 10 0 (cl g)) = false then (-12, sI N 8 0 16 0)
  else if ¬ N.1 9 0 (cl f) < 7 ∧ ¬ N.1 9 0 (cl f) = N.1 9 0 (cl g) then
    (if fst0 (cpT (sI N 8 0 16 0) (cl f) (cl a) (cl g) (cl b) (cl n) (decide (f = g ∧ a < b)) (N.1 9 0 (cl g))) (cl n) < cl n then -14 else n, m_cp (sI N 8 0 16 0) (cl f) (cl a) (cl g) (cl b) (cl n) (decide (f = g ∧ a < b)) (fst0 (cpT (sI N 8 0 16 0) (cl f) (cl a) (cl g) (cl b) (cl n) (decide (f = g ∧ a < b)) (N.1 9 0 (cl g))) (cl n)))
  else (n, m_cp (sI N 8 0 16 0) (cl f) (cl a) (cl g) (cl b) (cl n) (decide (f = g ∧ a < b)) (cl n))
theorem mRea_in {a n c : Int32} {m : Nat} (hm : m ≤ 40) (e : c = nI m) (hn : ¬ n < 0) (h : mRea a n c = true) : ∃ a' n', a = nI a' ∧ n = nI n' ∧ a' + n' ≤ m := by
  simp only [mRea, Bool.and_eq_true, Bool.not_eq_true', decide_eq_false_iff_not] at h
  obtain ⟨h1, h2, h3⟩ := h
  obtain ⟨a', ha, rfl⟩ := nI_of h1
  obtain ⟨n', hn', rfl⟩ := nI_of hn
  refine ⟨a', n', rfl, rfl, ?_⟩
  subst e
  have h4 := mt (nI_ltI (a := m) (b := a') (by omega) ha).mpr h2
  rw [pk_sub (by omega)] at h3
  have h5 := mt (nI_ltI (a := m - a') (b := n') (by omega) hn').mpr h3
  omega
theorem cpj_e {bk : Bool} {n k : Nat} (h : k < n) (hn : n ≤ 40) : (bk = true → nI n - 1 - nI k = nI (cpJ bk n k)) ∧ (bk = false → nI k = nI (cpJ bk n k)) := by
  refine ⟨fun e => ?_, fun e => ?_⟩
  · unfold cpJ
    rw [e, if_pos rfl, show (1 : Int32) = nI 1 from rfl, pk_sub (by omega), pk_sub (by omega)]
  · unfold cpJ
    rw [e, if_neg (by decide)]
theorem ixc {p : Int32} {a j : Nat} (hp : isPl p = true) : 40 * p + nI a + nI j = nI (40 * cl p + a + j) := by
  have h1 : ¬ p < 0 := by
    simp only [isPl, Bool.and_eq_true, Bool.not_eq_true', decide_eq_false_iff_not, decide_eq_true_eq] at hp
    exact hp.1
  rw [show (40 : Int32) = nI 40 from rfl]
  conv => lhs; rw [nI_cl h1]
  rw [pk_mul, nI_add, nI_add]

def SX3_copy : SP := fun as M post => match as with
  | [.inr (t, i0), .inl (.int f), .inl (.int a), .inl (.int g), .inl (.int b), .inl (.int n0)] => t = 8 ∧ i0 = 0 ∧ MOK (z0 M) ∧ post (some (.inl (.int (m_copy (z0 M) f a g b n0).1))) (m_copy (z0 M) f a g b n0).2
  | _ => False
abbrev rmX3_copy : Room := ({ frames := 2, cells := 0, slots := 0, locals := 120 } : Room)
def BX3_copy_259 (Qr : Option AV → MM → Prop) (K167 : PT) (lv : LV) (st : List AV) (M : MM) : Prop := (i_aload 0 (i_getR 8 12 (fun _ => 0) (i_iload 11 (i_aload 0 (i_getR 8 12 (fun _ => 0) (i_iload 10 (i_lald (i_last (i_aload 0 (i_getR 8 13 (fun _ => 0) (i_iload 11 (i_aload 0 (i_getR 8 13 (fun _ => 0) (i_iload 10 (i_dald (i_dast (i_aload 0 (i_dup (i_getI 8 16 (i_push (.inl (.int 1)) (i_II (fun a b => a + b) (i_putI 8 16 (i_iinc 8 1 (i_cut [0, 1, 2, 3, 4, 5, 6, 7, 8] K167)))))))))))))))))))))))) lv st M
set_option maxRecDepth 100000 in
set_option maxHeartbeats 4000000 in
theorem sBX3_copy_259 {p : Program} {l : Launch} {e : Env} {s : State} {m : MethodId} {args : Array Value} {below : List Frame} {meth : Method} {c : Code} {G : Nat → Nat → Nat} {cy dC : Nat → ClassId} {dI : Nat → Nat → Nat} {Qr : Option AV → MM → Prop} {K167 : PT} (F : FX p m c cX3_copy 12 RX3 s args (AW G) G cy dC dI) (hr : meth.sig.returnType = (some .int)) (hlk : meth.locks = false) (h167 : SO p l e rmX3_copy s m args below meth c 0 0 (MQ below (QI G cy dC dI Qr) args s 0 0 (AW G)) 12 (AW G) G cy dC dI 167 K167) : SO p l e rmX3_copy s m args below meth c 0 0 (MQ below (QI G cy dC dI Qr) args s 0 0 (AW G)) 12 (AW G) G cy dC dI 259 (BX3_copy_259 Qr K167) := by
  exact (s_aload_n F dX3_copy_259 rfl (s_getR F (ci := 3) (f := 4) dX3_copy_260 rfl in_X3 (by decide) q471 (fun _ _ _ _ => ⟨_, rfl, rfl⟩) (s_iload F dX3_copy_263 (s_aload_n F dX3_copy_265 rfl (s_getR F (ci := 3) (f := 4) dX3_copy_266 rfl in_X3 (by decide) q471 (fun _ _ _ _ => ⟨_, rfl, rfl⟩) (s_iload F dX3_copy_269 (s_lald F dX3_copy_271 (s_last F dX3_copy_272 (s_aload_n F dX3_copy_273 rfl (s_getR F (ci := 3) (f := 5) dX3_copy_274 rfl in_X3 (by decide) q472 (fun _ _ _ _ => ⟨_, rfl, rfl⟩) (s_iload F dX3_copy_277 (s_aload_n F dX3_copy_279 rfl (s_getR F (ci := 3) (f := 5) dX3_copy_280 rfl in_X3 (by decide) q472 (fun _ _ _ _ => ⟨_, rfl, rfl⟩) (s_iload F dX3_copy_283 (s_dald F dX3_copy_285 (s_dast F dX3_copy_286 (s_aload_n F dX3_copy_287 rfl (s_dup F dX3_copy_288 (s_getI F (ci := 3) dX3_copy_289 rfl in_X3 (by decide) q483 (fun _ _ _ _ => ⟨_, rfl, rfl⟩) (s_iconst F dX3_copy_292 (by decide) (s_iadd F dX3_copy_293 (s_putI F (ci := 3) dX3_copy_294 rfl in_X3 tyX3 tyX3_ok nmX3 (by decide) q483 rfl (by decide +kernel) (fun _ _ _ _ _ => ⟨_, rfl, Nat.le_of_ble_eq_true rfl, rfl⟩) (s_iinc F dX3_copy_297 (by decide) (by decide) (s_goto F dX3_copy_300 (by decide) (s_cut [0, 1, 2, 3, 4, 5, 6, 7, 8] h167)))))))))))))))))))))))))
def BX3_copy_191 (Qr : Option AV → MM → Prop) (K167 : PT) (lv : LV) (st : List AV) (M : MM) : Prop := (i_istore 9 (i_push (.inl (.int 40)) (i_iload 1 (i_II (fun a b => a * b) (i_iload 2 (i_II (fun a b => a + b) (i_iload 9 (i_II (fun a b => a + b) (i_istore 10 (i_push (.inl (.int 40)) (i_iload 3 (i_II (fun a b => a * b) (i_iload 4 (i_II (fun a b => a + b) (i_iload 9 (i_II (fun a b => a + b) (i_istore 11 (i_iload 6 (i_if (fun a => a = 0) (i_cut [0, 1, 2, 3, 4, 5, 6, 7, 8, 10, 11] (BX3_copy_259 Qr K167)) (i_aload 0 (i_getR 8 9 (fun _ => 0) (i_iload 1 (i_iald 0 (i_aload 0 (i_getR 8 9 (fun _ => 0) (i_iload 3 (i_iald 0 (i_cmp (fun a b => a = b) (i_cut [0, 1, 2, 3, 4, 5, 6, 7, 8, 10, 11] (BX3_copy_259 Qr K167)) (i_aload 0 (i_aload 0 (i_getR 8 9 (fun _ => 0) (i_iload 3 (i_iald 0 (i_aload 0 (i_getR 8 12 (fun _ => 0) (i_iload 10 (i_lald (i_callV 2 8 SX3_takes (i_if (fun a => a = 0) (i_push (.inl (.int (-14))) (i_iret Qr)) (i_cut [0, 1, 2, 3, 4, 5, 6, 7, 8, 10, 11] (BX3_copy_259 Qr K167))))))))))))))))))))))))))))))))))))))))) lv st M
set_option maxRecDepth 100000 in
set_option maxHeartbeats 4000000 in
theorem sBX3_copy_191 {p : Program} {l : Launch} {e : Env} {s : State} {m : MethodId} {args : Array Value} {below : List Frame} {meth : Method} {c : Code} {G : Nat → Nat → Nat} {cy dC : Nat → ClassId} {dI : Nat → Nat → Nat} {Qr : Option AV → MM → Prop} {K167 : PT} (F : FX p m c cX3_copy 12 RX3 s args (AW G) G cy dC dI) (hr : meth.sig.returnType = (some .int)) (hlk : meth.locks = false) (h167 : SO p l e rmX3_copy s m args below meth c 0 0 (MQ below (QI G cy dC dI Qr) args s 0 0 (AW G)) 12 (AW G) G cy dC dI 167 K167) : SO p l e rmX3_copy s m args below meth c 0 0 (MQ below (QI G cy dC dI Qr) args s 0 0 (AW G)) 12 (AW G) G cy dC dI 191 (BX3_copy_191 Qr K167) := by
  exact (s_istore F dX3_copy_191 (by decide) (s_bipush F dX3_copy_193 (by decide) (s_iload_n F dX3_copy_195 rfl (s_imul F dX3_copy_196 (s_iload_n F dX3_copy_197 rfl (s_iadd F dX3_copy_198 (s_iload F dX3_copy_199 (s_iadd F dX3_copy_201 (s_istore F dX3_copy_202 (by decide) (s_bipush F dX3_copy_204 (by decide) (s_iload_n F dX3_copy_206 rfl (s_imul F dX3_copy_207 (s_iload F dX3_copy_208 (s_iadd F dX3_copy_210 (s_iload F dX3_copy_211 (s_iadd F dX3_copy_213 (s_istore F dX3_copy_214 (by decide) (s_iload F dX3_copy_216 (s_if_eq F dX3_copy_218 (by decide) (s_cut [0, 1, 2, 3, 4, 5, 6, 7, 8, 10, 11] (sBX3_copy_259 F hr hlk h167)) (s_aload_n F dX3_copy_221 rfl (s_getR F (ci := 3) (f := 1) dX3_copy_222 rfl in_X3 (by decide) q468 (fun _ _ _ _ => ⟨_, rfl, rfl⟩) (s_iload_n F dX3_copy_225 rfl (s_iald F dX3_copy_226 (s_aload_n F dX3_copy_227 rfl (s_getR F (ci := 3) (f := 1) dX3_copy_228 rfl in_X3 (by decide) q468 (fun _ _ _ _ => ⟨_, rfl, rfl⟩) (s_iload_n F dX3_copy_231 rfl (s_iald F dX3_copy_232 (s_icmp_eq F dX3_copy_233 (by decide) (s_cut [0, 1, 2, 3, 4, 5, 6, 7, 8, 10, 11] (sBX3_copy_259 F hr hlk h167)) (s_aload_n F dX3_copy_236 rfl (s_aload_n F dX3_copy_237 rfl (s_getR F (ci := 3) (f := 1) dX3_copy_238 rfl in_X3 (by decide) q468 (fun _ _ _ _ => ⟨_, rfl, rfl⟩) (s_iload_n F dX3_copy_241 rfl (s_iald F dX3_copy_242 (s_aload_n F dX3_copy_243 rfl (s_getR F (ci := 3) (f := 4) dX3_copy_244 rfl in_X3 (by decide) q471 (fun _ _ _ _ => ⟨_, rfl, rfl⟩) (s_iload F dX3_copy_247 (s_lald F dX3_copy_249 (s_callVi F dX3_copy_250 (ctX3_takes l) (lw_V q613 q615 qs16 q4 q616) ⟨rfl, rfl⟩ (by decide +kernel) (by decide) ⟨Nat.zero_le _, Nat.zero_le _⟩ (ci := 3) rfl (fun _ _ _ _ => ⟨_, rfl⟩) (s_if_ne F dX3_copy_253 (by decide) (s_cut [0, 1, 2, 3, 4, 5, 6, 7, 8, 10, 11] (sBX3_copy_259 F hr hlk h167)) (s_bipush F dX3_copy_256 (by decide) (s_iret F dX3_copy_258 hr hlk)))))))))))))))))))))))))))))))))))))))))
def BX3_copy_167 (Qr : Option AV → MM → Prop) (K167 : PT) (lv : LV) (st : List AV) (M : MM) : Prop := (i_iload 8 (i_iload 5 (i_cmp (fun a b => a < b) (i_iload 7 (i_if (fun a => a = 0) (i_iload 8 (i_cut [0, 1, 2, 3, 4, 5, 6, 7, 8] (BX3_copy_191 Qr K167))) (i_iload 5 (i_push (.inl (.int 1)) (i_II (fun a b => a - b) (i_iload 8 (i_II (fun a b => a - b) (i_cut [0, 1, 2, 3, 4, 5, 6, 7, 8] (BX3_copy_191 Qr K167))))))))) (i_iload 5 (i_iret Qr))))) lv st M
set_option maxRecDepth 100000 in
set_option maxHeartbeats 4000000 in
theorem sBX3_copy_167 {p : Program} {l : Launch} {e : Env} {s : State} {m : MethodId} {args : Array Value} {below : List Frame} {meth : Method} {c : Code} {G : Nat → Nat → Nat} {cy dC : Nat → ClassId} {dI : Nat → Nat → Nat} {Qr : Option AV → MM → Prop} {K167 : PT} (F : FX p m c cX3_copy 12 RX3 s args (AW G) G cy dC dI) (hr : meth.sig.returnType = (some .int)) (hlk : meth.locks = false) (h167 : SO p l e rmX3_copy s m args below meth c 0 0 (MQ below (QI G cy dC dI Qr) args s 0 0 (AW G)) 12 (AW G) G cy dC dI 167 K167) : SO p l e rmX3_copy s m args below meth c 0 0 (MQ below (QI G cy dC dI Qr) args s 0 0 (AW G)) 12 (AW G) G cy dC dI 167 (BX3_copy_167 Qr K167) := by
  exact (s_iload F dX3_copy_167 (s_iload F dX3_copy_169 (s_icmp_ge F dX3_copy_171 (by decide) (s_iload F dX3_copy_303 (s_iret F dX3_copy_305 hr hlk)) (s_iload F dX3_copy_174 (s_if_eq F dX3_copy_176 (by decide) (s_iload F dX3_copy_189 (s_cut [0, 1, 2, 3, 4, 5, 6, 7, 8] (sBX3_copy_191 F hr hlk h167))) (s_iload F dX3_copy_179 (s_iconst F dX3_copy_181 (by decide) (s_isub F dX3_copy_182 (s_iload F dX3_copy_183 (s_isub F dX3_copy_185 (s_goto F dX3_copy_186 (by decide) (s_cut [0, 1, 2, 3, 4, 5, 6, 7, 8] (sBX3_copy_191 F hr hlk h167)))))))))))))
def BX3_copy_162 (Qr : Option AV → MM → Prop) (K167 : PT) (lv : LV) (st : List AV) (M : MM) : Prop := (i_istore 7 (i_push (.inl (.int 0)) (i_istore 8 (i_cut [0, 1, 2, 3, 4, 5, 6, 7, 8] K167)))) lv st M
set_option maxRecDepth 100000 in
set_option maxHeartbeats 4000000 in
theorem sBX3_copy_162 {p : Program} {l : Launch} {e : Env} {s : State} {m : MethodId} {args : Array Value} {below : List Frame} {meth : Method} {c : Code} {G : Nat → Nat → Nat} {cy dC : Nat → ClassId} {dI : Nat → Nat → Nat} {Qr : Option AV → MM → Prop} {K167 : PT} (F : FX p m c cX3_copy 12 RX3 s args (AW G) G cy dC dI) (hr : meth.sig.returnType = (some .int)) (hlk : meth.locks = false) (h167 : SO p l e rmX3_copy s m args below meth c 0 0 (MQ below (QI G cy dC dI Qr) args s 0 0 (AW G)) 12 (AW G) G cy dC dI 167 K167) : SO p l e rmX3_copy s m args below meth c 0 0 (MQ below (QI G cy dC dI Qr) args s 0 0 (AW G)) 12 (AW G) G cy dC dI 162 (BX3_copy_162 Qr K167) := by
  exact (s_istore F dX3_copy_162 (by decide) (s_iconst F dX3_copy_164 (by decide) (s_istore F dX3_copy_165 (by decide) (s_cut [0, 1, 2, 3, 4, 5, 6, 7, 8] h167))))
def BX3_copy_161 (Qr : Option AV → MM → Prop) (K167 : PT) (lv : LV) (st : List AV) (M : MM) : Prop := (i_push (.inl (.int 0)) (i_cut [0, 1, 2, 3, 4, 5, 6] (BX3_copy_162 Qr K167))) lv st M
set_option maxRecDepth 100000 in
set_option maxHeartbeats 4000000 in
theorem sBX3_copy_161 {p : Program} {l : Launch} {e : Env} {s : State} {m : MethodId} {args : Array Value} {below : List Frame} {meth : Method} {c : Code} {G : Nat → Nat → Nat} {cy dC : Nat → ClassId} {dI : Nat → Nat → Nat} {Qr : Option AV → MM → Prop} {K167 : PT} (F : FX p m c cX3_copy 12 RX3 s args (AW G) G cy dC dI) (hr : meth.sig.returnType = (some .int)) (hlk : meth.locks = false) (h167 : SO p l e rmX3_copy s m args below meth c 0 0 (MQ below (QI G cy dC dI Qr) args s 0 0 (AW G)) 12 (AW G) G cy dC dI 167 K167) : SO p l e rmX3_copy s m args below meth c 0 0 (MQ below (QI G cy dC dI Qr) args s 0 0 (AW G)) 12 (AW G) G cy dC dI 161 (BX3_copy_161 Qr K167) := by
  exact (s_iconst F dX3_copy_161 (by decide) (s_cut [0, 1, 2, 3, 4, 5, 6] (sBX3_copy_162 F hr hlk h167)))
def BX3_copy_107 (Qr : Option AV → MM → Prop) (K167 : PT) (lv : LV) (st : List AV) (M : MM) : Prop := (i_iload 5 (i_if (fun a => a < 0) (i_push (.inl (.int (-12))) (i_iret Qr)) (i_iload 2 (i_iload 5 (i_aload 0 (i_getR 8 10 (fun _ => 0) (i_iload 1 (i_iald 0 (i_call 3 SX3_reaches (i_if (fun a => a = 0) (i_push (.inl (.int (-12))) (i_iret Qr)) (i_iload 4 (i_iload 5 (i_aload 0 (i_getR 8 10 (fun _ => 0) (i_iload 3 (i_iald 0 (i_call 3 SX3_reaches (i_if (fun a => a = 0) (i_push (.inl (.int (-12))) (i_iret Qr)) (i_iload 1 (i_iload 3 (i_cmp (fun a b => a = b) (i_iload 4 (i_iload 2 (i_cmp (fun a b => b < a) (i_push (.inl (.int 1)) (i_cut [0, 1, 2, 3, 4, 5, 6] (BX3_copy_162 Qr K167))) (i_cut [0, 1, 2, 3, 4, 5, 6] (BX3_copy_161 Qr K167))))) (i_cut [0, 1, 2, 3, 4, 5, 6] (BX3_copy_161 Qr K167))))))))))))))))))))))) lv st M
set_option maxRecDepth 100000 in
set_option maxHeartbeats 4000000 in
theorem sBX3_copy_107 {p : Program} {l : Launch} {e : Env} {s : State} {m : MethodId} {args : Array Value} {below : List Frame} {meth : Method} {c : Code} {G : Nat → Nat → Nat} {cy dC : Nat → ClassId} {dI : Nat → Nat → Nat} {Qr : Option AV → MM → Prop} {K167 : PT} (F : FX p m c cX3_copy 12 RX3 s args (AW G) G cy dC dI) (hr : meth.sig.returnType = (some .int)) (hlk : meth.locks = false) (h167 : SO p l e rmX3_copy s m args below meth c 0 0 (MQ below (QI G cy dC dI Qr) args s 0 0 (AW G)) 12 (AW G) G cy dC dI 167 K167) : SO p l e rmX3_copy s m args below meth c 0 0 (MQ below (QI G cy dC dI Qr) args s 0 0 (AW G)) 12 (AW G) G cy dC dI 107 (BX3_copy_107 Qr K167) := by
  exact (s_iload F dX3_copy_107 (s_if_lt F dX3_copy_109 (by decide) (s_bipush F dX3_copy_143 (by decide) (s_iret F dX3_copy_145 hr hlk)) (s_iload_n F dX3_copy_112 rfl (s_iload F dX3_copy_113 (s_aload_n F dX3_copy_115 rfl (s_getR F (ci := 3) (f := 2) dX3_copy_116 rfl in_X3 (by decide) q469 (fun _ _ _ _ => ⟨_, rfl, rfl⟩) (s_iload_n F dX3_copy_119 rfl (s_iald F dX3_copy_120 (s_callSi F dX3_copy_121 (ctX3_reaches l) (lw_S q641 q642 q4 q643) ⟨rfl, rfl⟩ (by decide +kernel) (by decide) ⟨Nat.zero_le _, Nat.zero_le _⟩ (s_if_eq F dX3_copy_124 (by decide) (s_bipush F dX3_copy_143 (by decide) (s_iret F dX3_copy_145 hr hlk)) (s_iload F dX3_copy_127 (s_iload F dX3_copy_129 (s_aload_n F dX3_copy_131 rfl (s_getR F (ci := 3) (f := 2) dX3_copy_132 rfl in_X3 (by decide) q469 (fun _ _ _ _ => ⟨_, rfl, rfl⟩) (s_iload_n F dX3_copy_135 rfl (s_iald F dX3_copy_136 (s_callSi F dX3_copy_137 (ctX3_reaches l) (lw_S q641 q642 q4 q643) ⟨rfl, rfl⟩ (by decide +kernel) (by decide) ⟨Nat.zero_le _, Nat.zero_le _⟩ (s_if_ne F dX3_copy_140 (by decide) (s_iload_n F dX3_copy_146 rfl (s_iload_n F dX3_copy_147 rfl (s_icmp_ne F dX3_copy_148 (by decide) (s_cut [0, 1, 2, 3, 4, 5, 6] (sBX3_copy_161 F hr hlk h167)) (s_iload F dX3_copy_151 (s_iload_n F dX3_copy_153 rfl (s_icmp_le F dX3_copy_154 (by decide) (s_cut [0, 1, 2, 3, 4, 5, 6] (sBX3_copy_161 F hr hlk h167)) (s_iconst F dX3_copy_157 (by decide) (s_goto F dX3_copy_158 (by decide) (s_cut [0, 1, 2, 3, 4, 5, 6] (sBX3_copy_162 F hr hlk h167)))))))))) (s_bipush F dX3_copy_143 (by decide) (s_iret F dX3_copy_145 hr hlk))))))))))))))))))))
def BX3_copy_81 (Qr : Option AV → MM → Prop) (K167 : PT) (lv : LV) (st : List AV) (M : MM) : Prop := (i_cmp (fun a b => a = b) (i_iload 6 (i_if (fun a => a = 0) (i_aload 0 (i_getR 8 9 (fun _ => 0) (i_iload 1 (i_iald 0 (i_aload 0 (i_getR 8 9 (fun _ => 0) (i_iload 3 (i_iald 0 (i_cmp (fun a b => a = b) (i_cut [0, 1, 2, 3, 4, 5, 6] (BX3_copy_107 Qr K167)) (i_push (.inl (.int (-13))) (i_iret Qr))))))))))) (i_cut [0, 1, 2, 3, 4, 5, 6] (BX3_copy_107 Qr K167)))) (i_push (.inl (.int (-13))) (i_iret Qr))) lv st M
set_option maxRecDepth 100000 in
set_option maxHeartbeats 4000000 in
theorem sBX3_copy_81 {p : Program} {l : Launch} {e : Env} {s : State} {m : MethodId} {args : Array Value} {below : List Frame} {meth : Method} {c : Code} {G : Nat → Nat → Nat} {cy dC : Nat → ClassId} {dI : Nat → Nat → Nat} {Qr : Option AV → MM → Prop} {K167 : PT} (F : FX p m c cX3_copy 12 RX3 s args (AW G) G cy dC dI) (hr : meth.sig.returnType = (some .int)) (hlk : meth.locks = false) (h167 : SO p l e rmX3_copy s m args below meth c 0 0 (MQ below (QI G cy dC dI Qr) args s 0 0 (AW G)) 12 (AW G) G cy dC dI 167 K167) : SO p l e rmX3_copy s m args below meth c 0 0 (MQ below (QI G cy dC dI Qr) args s 0 0 (AW G)) 12 (AW G) G cy dC dI 81 (BX3_copy_81 Qr K167) := by
  exact (s_icmp_ne F dX3_copy_81 (by decide) (s_bipush F dX3_copy_104 (by decide) (s_iret F dX3_copy_106 hr hlk)) (s_iload F dX3_copy_84 (s_if_ne F dX3_copy_86 (by decide) (s_cut [0, 1, 2, 3, 4, 5, 6] (sBX3_copy_107 F hr hlk h167)) (s_aload_n F dX3_copy_89 rfl (s_getR F (ci := 3) (f := 1) dX3_copy_90 rfl in_X3 (by decide) q468 (fun _ _ _ _ => ⟨_, rfl, rfl⟩) (s_iload_n F dX3_copy_93 rfl (s_iald F dX3_copy_94 (s_aload_n F dX3_copy_95 rfl (s_getR F (ci := 3) (f := 1) dX3_copy_96 rfl in_X3 (by decide) q468 (fun _ _ _ _ => ⟨_, rfl, rfl⟩) (s_iload_n F dX3_copy_99 rfl (s_iald F dX3_copy_100 (s_icmp_eq F dX3_copy_101 (by decide) (s_cut [0, 1, 2, 3, 4, 5, 6] (sBX3_copy_107 F hr hlk h167)) (s_bipush F dX3_copy_104 (by decide) (s_iret F dX3_copy_106 hr hlk))))))))))))))
def BX3_copy_61 (Qr : Option AV → MM → Prop) (K167 : PT) (lv : LV) (st : List AV) (M : MM) : Prop := (i_istore 6 (i_iload 6 (i_aload 0 (i_getR 8 9 (fun _ => 0) (i_iload 3 (i_iald 0 (i_push (.inl (.int 7)) (i_cmp (fun a b => a < b) (i_push (.inl (.int 0)) (i_cut [0, 1, 2, 3, 4, 5, 6] (BX3_copy_81 Qr K167))) (i_push (.inl (.int 1)) (i_cut [0, 1, 2, 3, 4, 5, 6] (BX3_copy_81 Qr K167))))))))))) lv st M
set_option maxRecDepth 100000 in
set_option maxHeartbeats 4000000 in
theorem sBX3_copy_61 {p : Program} {l : Launch} {e : Env} {s : State} {m : MethodId} {args : Array Value} {below : List Frame} {meth : Method} {c : Code} {G : Nat → Nat → Nat} {cy dC : Nat → ClassId} {dI : Nat → Nat → Nat} {Qr : Option AV → MM → Prop} {K167 : PT} (F : FX p m c cX3_copy 12 RX3 s args (AW G) G cy dC dI) (hr : meth.sig.returnType = (some .int)) (hlk : meth.locks = false) (h167 : SO p l e rmX3_copy s m args below meth c 0 0 (MQ below (QI G cy dC dI Qr) args s 0 0 (AW G)) 12 (AW G) G cy dC dI 167 K167) : SO p l e rmX3_copy s m args below meth c 0 0 (MQ below (QI G cy dC dI Qr) args s 0 0 (AW G)) 12 (AW G) G cy dC dI 61 (BX3_copy_61 Qr K167) := by
  exact (s_istore F dX3_copy_61 (by decide) (s_iload F dX3_copy_63 (s_aload_n F dX3_copy_65 rfl (s_getR F (ci := 3) (f := 1) dX3_copy_66 rfl in_X3 (by decide) q468 (fun _ _ _ _ => ⟨_, rfl, rfl⟩) (s_iload_n F dX3_copy_69 rfl (s_iald F dX3_copy_70 (s_bipush F dX3_copy_71 (by decide) (s_icmp_lt F dX3_copy_73 (by decide) (s_iconst F dX3_copy_80 (by decide) (s_cut [0, 1, 2, 3, 4, 5, 6] (sBX3_copy_81 F hr hlk h167))) (s_iconst F dX3_copy_76 (by decide) (s_goto F dX3_copy_77 (by decide) (s_cut [0, 1, 2, 3, 4, 5, 6] (sBX3_copy_81 F hr hlk h167))))))))))))
def BX3_copy_0 (Qr : Option AV → MM → Prop) (K167 : PT) (lv : LV) (st : List AV) (M : MM) : Prop := (i_aload 0 (i_push (.inl (.int 0)) (i_putI 8 0 (i_iload 1 (i_call 1 SX3_isPlace (i_if (fun a => a = 0) (i_push (.inl (.int (-1))) (i_iret Qr)) (i_iload 3 (i_call 1 SX3_isPlace (i_if (fun a => a = 0) (i_push (.inl (.int (-1))) (i_iret Qr)) (i_aload 0 (i_push (.inl (.int 0)) (i_putI 8 16 (i_aload 0 (i_iload 1 (i_callV 1 8 SX3_isNone (i_if (fun a => a = 0) (i_aload 0 (i_iload 3 (i_callV 1 8 SX3_isNone (i_if (fun a => a = 0) (i_aload 0 (i_getR 8 9 (fun _ => 0) (i_iload 1 (i_iald 0 (i_push (.inl (.int 7)) (i_cmp (fun a b => a < b) (i_push (.inl (.int 0)) (i_cut [0, 1, 2, 3, 4, 5] (BX3_copy_61 Qr K167))) (i_push (.inl (.int 1)) (i_cut [0, 1, 2, 3, 4, 5] (BX3_copy_61 Qr K167))))))))) (i_push (.inl (.int (-11))) (i_iret Qr)))))) (i_push (.inl (.int (-11))) (i_iret Qr)))))))))))))))))) lv st M
set_option maxRecDepth 100000 in
set_option maxHeartbeats 4000000 in
theorem sBX3_copy_0 {p : Program} {l : Launch} {e : Env} {s : State} {m : MethodId} {args : Array Value} {below : List Frame} {meth : Method} {c : Code} {G : Nat → Nat → Nat} {cy dC : Nat → ClassId} {dI : Nat → Nat → Nat} {Qr : Option AV → MM → Prop} {K167 : PT} (F : FX p m c cX3_copy 12 RX3 s args (AW G) G cy dC dI) (hr : meth.sig.returnType = (some .int)) (hlk : meth.locks = false) (h167 : SO p l e rmX3_copy s m args below meth c 0 0 (MQ below (QI G cy dC dI Qr) args s 0 0 (AW G)) 12 (AW G) G cy dC dI 167 K167) : SO p l e rmX3_copy s m args below meth c 0 0 (MQ below (QI G cy dC dI Qr) args s 0 0 (AW G)) 12 (AW G) G cy dC dI 0 (BX3_copy_0 Qr K167) := by
  exact (s_aload_n F dX3_copy_0 rfl (s_iconst F dX3_copy_1 (by decide) (s_putI F (ci := 3) dX3_copy_2 rfl in_X3 tyX3 tyX3_ok nmX3 (by decide) q467 rfl (by decide +kernel) (fun _ _ _ _ _ => ⟨_, rfl, Nat.le_of_ble_eq_true rfl, rfl⟩) (s_iload_n F dX3_copy_5 rfl (s_callSi F dX3_copy_6 (ctX3_isPlace l) (lw_S q529 q530 q4 q531) ⟨rfl, rfl⟩ (by decide +kernel) (by decide) ⟨Nat.zero_le _, Nat.zero_le _⟩ (s_if_eq F dX3_copy_9 (by decide) (s_iconst F dX3_copy_19 (by decide) (s_iret F dX3_copy_20 hr hlk)) (s_iload_n F dX3_copy_12 rfl (s_callSi F dX3_copy_13 (ctX3_isPlace l) (lw_S q529 q530 q4 q531) ⟨rfl, rfl⟩ (by decide +kernel) (by decide) ⟨Nat.zero_le _, Nat.zero_le _⟩ (s_if_ne F dX3_copy_16 (by decide) (s_aload_n F dX3_copy_21 rfl (s_iconst F dX3_copy_22 (by decide) (s_putI F (ci := 3) dX3_copy_23 rfl in_X3 tyX3 tyX3_ok nmX3 (by decide) q483 rfl (by decide +kernel) (fun _ _ _ _ _ => ⟨_, rfl, Nat.le_of_ble_eq_true rfl, rfl⟩) (s_aload_n F dX3_copy_26 rfl (s_iload_n F dX3_copy_27 rfl (s_callVi F dX3_copy_28 (ctX3_isNone l) (lw_V q540 q542 qs11 q4 q543) ⟨rfl, rfl⟩ (by decide +kernel) (by decide) ⟨Nat.zero_le _, Nat.zero_le _⟩ (ci := 3) rfl (fun _ _ _ _ => ⟨_, rfl⟩) (s_if_ne F dX3_copy_31 (by decide) (s_bipush F dX3_copy_42 (by decide) (s_iret F dX3_copy_44 hr hlk)) (s_aload_n F dX3_copy_34 rfl (s_iload_n F dX3_copy_35 rfl (s_callVi F dX3_copy_36 (ctX3_isNone l) (lw_V q540 q542 qs11 q4 q543) ⟨rfl, rfl⟩ (by decide +kernel) (by decide) ⟨Nat.zero_le _, Nat.zero_le _⟩ (ci := 3) rfl (fun _ _ _ _ => ⟨_, rfl⟩) (s_if_eq F dX3_copy_39 (by decide) (s_aload_n F dX3_copy_45 rfl (s_getR F (ci := 3) (f := 1) dX3_copy_46 rfl in_X3 (by decide) q468 (fun _ _ _ _ => ⟨_, rfl, rfl⟩) (s_iload_n F dX3_copy_49 rfl (s_iald F dX3_copy_50 (s_bipush F dX3_copy_51 (by decide) (s_icmp_lt F dX3_copy_53 (by decide) (s_iconst F dX3_copy_60 (by decide) (s_cut [0, 1, 2, 3, 4, 5] (sBX3_copy_61 F hr hlk h167))) (s_iconst F dX3_copy_56 (by decide) (s_goto F dX3_copy_57 (by decide) (s_cut [0, 1, 2, 3, 4, 5] (sBX3_copy_61 F hr hlk h167)))))))))) (s_bipush F dX3_copy_42 (by decide) (s_iret F dX3_copy_44 hr hlk))))))))))))) (s_iconst F dX3_copy_19 (by decide) (s_iret F dX3_copy_20 hr hlk)))))))))))
theorem mNone_16 (N : MM) (v : Int32) (p : Nat) : mNone (sI N 8 0 16 v) p = mNone N p := by unfold mNone; rw [sI_o (by decide), sI_o (by decide)]
theorem mTak_cp (N : MM) (f a g b n : Nat) (bk : Bool) (k : Nat) (kg : Int32) (v : Int64) : mTak (m_cp N f a g b n bk k) kg v = mTak N kg v := by unfold mTak; rw [mcp_t N f a g b n bk (by decide) k]
set_option maxRecDepth 100000 in
set_option maxHeartbeats 8000000 in
theorem ctX3_copy (l : Launch) : CI l yX3_copy (ws_ yX3_copy cX3_copy 12 (some .int)) rmX3_copy SX3_copy := by
  refine mk_CI (by decide) ?_
  intro p e s m args below meth c G cy dC dI F hr hlk as M post hS
  unfold SX3_copy at hS
  split at hS
  · rename_i t i0 f a g b n0
    obtain ⟨rfl, rfl, hM, hS⟩ := hS
    have hN : ∃ N, N = z0 M := ⟨_, rfl⟩
    obtain ⟨N, hN⟩ := hN
    rw [← hN] at hS hM
    have hP1 : ∀ p, isPl p = true → vp_in p 24 := fun p h => (isPl_in h).1
    by_cases good : isPl f = true ∧ isPl g = true ∧ mNone N (cl f) = false ∧ mNone N (cl g) = false ∧ (N.1 9 0 (cl f) < 7 ↔ N.1 9 0 (cl g) < 7) ∧ (N.1 9 0 (cl f) < 7 → N.1 9 0 (cl f) = N.1 9 0 (cl g)) ∧ ¬ n0 < 0 ∧ mRea a n0 (N.1 10 0 (cl f)) = true ∧ mRea b n0 (N.1 10 0 (cl g)) = true
    · obtain ⟨h1, h2, h3, h4, h5, h6, h7, h8, h9⟩ := good
      obtain ⟨hv1, hp24⟩ := isPl_in h1
      obtain ⟨hv2, hq24⟩ := isPl_in h2
      obtain ⟨mf, hmf, emf⟩ := hM.1 (cl f) hp24
      obtain ⟨mg, hmg, emg⟩ := hM.1 (cl g) hq24
      have h8' := h8
      have h9' := h9
      obtain ⟨a', n', rfl, en, hA⟩ := mRea_in hmf emf h7 h8
      obtain ⟨b', n'', rfl, en2, hB⟩ := mRea_in hmg emg h7 h9
      subst en
      have hnn : n'' = n' := ((nI_eq (by omega) (by omega)).mp en2).symm
      subst hnn
      have hcf : mcnt N (cl f) = mf := by unfold mcnt; rw [emf, nI_clamp (by omega)]
      have hN1 : ∃ N1, N1 = sI N 8 0 16 0 := ⟨_, rfl⟩
      obtain ⟨N1, hN1⟩ := hN1
      have hbk : ∃ bk, bk = decide (f = g ∧ nI a' < nI b') := ⟨_, rfl⟩
      obtain ⟨bk, hbk⟩ := hbk
      have hkfx : ∃ kf, N.1 9 0 (cl f) = kf := ⟨_, rfl⟩
      obtain ⟨kf, hkf0⟩ := hkfx
      have hkgx : ∃ kg, N.1 9 0 (cl g) = kg := ⟨_, rfl⟩
      obtain ⟨kg, hkg0⟩ := hkgx
      have hkf : N1.1 9 0 (cl f) = kf := by rw [hN1, sI_o (by decide)]; exact hkf0
      have hkg : N1.1 9 0 (cl g) = kg := by rw [hN1, sI_o (by decide)]; exact hkg0
      have hpok : ∀ x, x < mf → ¬ kf < 7 → pOK (N1.2.1 12 0 (40 * cl f + x)) := fun x hx hk7 => by
        rw [hN1]
        exact hM.2.2.2 (cl f) x hp24 (by rw [hcf]; exact hx) (by rw [hkf0]; exact hk7)
      have hx : m_copy N f (nI a') g (nI b') (nI n'') = if ¬ kf < 7 ∧ ¬ kf = kg then (if fst0 (cpT N1 (cl f) a' (cl g) b' n'' bk kg) n'' < n'' then -14 else nI n'', m_cp N1 (cl f) a' (cl g) b' n'' bk (fst0 (cpT N1 (cl f) a' (cl g) b' n'' bk kg) n'')) else (nI n'', m_cp N1 (cl f) a' (cl g) b' n'' bk n'') := by
        unfold m_copy
        rw [if_neg (by rw [h1, h2]; simp), if_neg (by rw [h3, h4]; simp), if_neg (fun q => q.elim (fun q => q h5) (fun q => q.2 (h6 q.1))), if_neg (by rw [h8', h9']; simp [h7]), hkf0, hkg0, ← hN1, ← hbk, show cl (nI a') = a' from ncl (by omega), show cl (nI b') = b' from ncl (by omega), show cl (nI n'') = n'' from ncl (by omega)]
      rw [hx] at hS
      have hend : (¬ kf < 7 ∧ ¬ kf = kg → ∀ j, j < n'' → cpT N1 (cl f) a' (cl g) b' n'' bk kg j = true) → post (some (.inl (.int (nI n'')))) (m_cp N1 (cl f) a' (cl g) b' n'' bk n'') := fun q => by
        by_cases hu : ¬ kf < 7 ∧ ¬ kf = kg
        · rw [if_pos hu, fst0_eq (cpT N1 (cl f) a' (cl g) b' n'' bk kg) (Nat.le_refl _) (q hu) (Or.inl rfl), if_neg (Nat.lt_irrefl _)] at hS
          exact hS
        · rw [if_neg hu] at hS
          exact hS
      have hst : ¬ kf < 7 ∧ ¬ kf = kg → ∀ k, k < n'' → (∀ j, j < k → cpT N1 (cl f) a' (cl g) b' n'' bk kg j = true) → cpT N1 (cl f) a' (cl g) b' n'' bk kg k = false → post (some (.inl (.int (-14)))) (m_cp N1 (cl f) a' (cl g) b' n'' bk k) := fun hu k hk q1 q2 => by
        rw [if_pos hu, fst0_eq (cpT N1 (cl f) a' (cl g) b' n'' bk kg) (by omega) q1 (Or.inr q2), if_pos hk] at hS
        exact hS
      clear hS hx
      generalize n'' = n' at *
      have hL : ∀ n, SO p l e rmX3_copy s m args below meth c 0 0 (MQ below (QI G cy dC dI post) args s 0 0 (AW G)) 12 (AW G) G cy dC dI 167 ((fun (n : Nat) (lv : LV) (st : List AV) (M' : MM) => ∃ k : Nat, k ≤ n' ∧ n = n' - k ∧ (¬ kf < 7 ∧ ¬ kf = kg → ∀ j, j < k → cpT N1 (cl f) a' (cl g) b' n' bk kg j = true) ∧ lv = [(0, .inr (8, 0)), (1, .inl (.int f)), (2, .inl (.int (nI a'))), (3, .inl (.int g)), (4, .inl (.int (nI b'))), (5, .inl (.int (nI n'))), (6, .inl (.int (b2i (¬ kf < 7)))), (7, .inl (.int (b2i (bk = true)))), (8, .inl (.int (nI k)))] ∧ st = [] ∧ M' = m_cp N1 (cl f) a' (cl g) b' n' bk k) n) := by
        refine SO_loop (fun K => BX3_copy_167 post K) (fun K hK => sBX3_copy_167 F hr hlk hK) (fun (n : Nat) (lv : LV) (st : List AV) (M' : MM) => ∃ k : Nat, k ≤ n' ∧ n = n' - k ∧ (¬ kf < 7 ∧ ¬ kf = kg → ∀ j, j < k → cpT N1 (cl f) a' (cl g) b' n' bk kg j = true) ∧ lv = [(0, .inr (8, 0)), (1, .inl (.int f)), (2, .inl (.int (nI a'))), (3, .inl (.int g)), (4, .inl (.int (nI b'))), (5, .inl (.int (nI n'))), (6, .inl (.int (b2i (¬ kf < 7)))), (7, .inl (.int (b2i (bk = true)))), (8, .inl (.int (nI k)))] ∧ st = [] ∧ M' = m_cp N1 (cl f) a' (cl g) b' n' bk k) ?_
        intro n lv st M' ⟨k, hk, hn, hun, e1, e2, e3⟩
        subst e1; subst e2; subst e3
        simp only [BX3_copy_0, BX3_copy_61, BX3_copy_81, BX3_copy_107, BX3_copy_161, BX3_copy_162, BX3_copy_167, BX3_copy_191, BX3_copy_259, i_push, i_iload, i_aload, i_istore, i_iinc, i_II, i_dup, i_if, i_cmp, i_getI, i_getR, i_putI, i_iald, i_lald, i_dald, i_last, i_dast, i_call, i_callV, i_iret, i_cut, lk, wd, rm1, rm2, pick, popn, catS, pushO, aLV, cond_true, cond_false, Bool.not_true, Bool.not_false, Bool.and_true, Bool.and_false, Bool.true_and, Bool.false_and, eq_self, true_and, and_true, Nat.reduceBEq, Nat.reduceAdd, reduceIte, Nat.reduceEqDiff, SX3_isNone, SX3_isPlace, SX3_reaches, SX3_takes]
        try simp only [tCnt, aK, aN, aR, eq_self, true_and, and_true, Nat.reduceLeDiff, Nat.reduceEqDiff]
        simp only [b2i_0, Bool.not_eq_true, Bool.not_eq_false, Decidable.not_not]
        refine ⟨fun c => ?_, fun c => ?_⟩
        · have hlt : k < n' := (nI_ltI (by omega) (by omega)).mp c
          obtain ⟨jt, jf⟩ := cpj_e (bk := bk) hlt (by omega)
          have hj : cpJ bk n' k < n' := by unfold cpJ; split <;> omega
          have hva := vin (n := 960) (i := 40 * cl f + a' + cpJ bk n' k) (by omega) (by omega)
          have hvb := vin (n := 960) (i := 40 * cl g + b' + cpJ bk n' k) (by omega) (by omega)
          refine ⟨fun q => ?_, fun q => ?_⟩
          · rw [jf q]
            simp only [ixc h1, ixc h2]
            simp only [show (nI (40 * cl f + a' + cpJ bk n' k)).toNatClampNeg = 40 * cl f + a' + cpJ bk n' k from ncl (by omega), show (nI (40 * cl g + b' + cpJ bk n' k)).toNatClampNeg = 40 * cl g + b' + cpJ bk n' k from ncl (by omega), mcp_t _ _ _ _ _ _ _ (show ¬ (9 : Nat) = 8 by decide), hkf, hkg]
            refine ⟨fun c1 => ?_, fun c1 => ?_⟩
            · (repeat (first | refine And.intro hv1 ?_ | refine And.intro hv2 ?_ | refine And.intro hva ?_ | refine And.intro hvb ?_ | refine And.intro (by decide) ?_))
              exact ⟨n - 1, by omega, k + 1, by omega, by omega, fun hu => absurd c1 hu.1, by rw [← jf q, nI_1], rfl⟩
            · (repeat (first | refine And.intro hv1 ?_ | refine And.intro hv2 ?_ | refine And.intro (by decide) ?_))
              refine ⟨fun c2 => ?_, fun c2 => ?_⟩
              · (repeat (first | refine And.intro hv1 ?_ | refine And.intro hv2 ?_ | refine And.intro hva ?_ | refine And.intro hvb ?_ | refine And.intro (by decide) ?_))
                exact ⟨n - 1, by omega, k + 1, by omega, by omega, fun hu => absurd c2 hu.2, by rw [← jf q, nI_1], rfl⟩
              · have hu : ¬ kf < 7 ∧ ¬ kf = kg := ⟨c1, c2⟩
                have hne : ¬ cl f = cl g := fun q => c2 (by rw [← hkf, ← hkg]; show N1.1 9 0 (cl f) = N1.1 9 0 (cl g); rw [q])
                have hsrc : (m_cp N1 (cl f) a' (cl g) b' n' bk k).2.1 12 0 (40 * cl f + a' + cpJ bk n' k) = N1.2.1 12 0 (40 * cl f + (a' + cpJ bk n' k)) := by
                  rw [show 40 * cl f + a' + cpJ bk n' k = 40 * cl f + (a' + cpJ bk n' k) by omega]
                  exact mcp_src hne (by omega) (by omega) k (by omega)
                have hpre : ¬ lg_cmp ((m_cp N1 (cl f) a' (cl g) b' n' bk k).2.1 12 0 (40 * cl f + a' + cpJ bk n' k)) 0 < 0 → vp_in ((m_cp N1 (cl f) a' (cl g) b' n' bk k).2.1 12 0 (40 * cl f + a' + cpJ bk n' k)).toInt32 40 := by
                  rw [hsrc]
                  exact pOK_in (hpok _ (by omega) c1)
                (repeat (first | refine And.intro hv1 ?_ | refine And.intro hv2 ?_ | refine And.intro hva ?_ | refine And.intro hvb ?_ | refine And.intro hpre ?_ | refine And.intro (by decide) ?_))
                simp only [mTak_cp]
                refine ⟨fun c3 => ?_, fun c3 => ?_⟩
                · exact hst hu k hlt (hun hu) c3
                · (repeat (first | refine And.intro hv1 ?_ | refine And.intro hv2 ?_ | refine And.intro hva ?_ | refine And.intro hvb ?_ | refine And.intro (by decide) ?_))
                  exact ⟨n - 1, by omega, k + 1, by omega, by omega, fun _ j hj => (if e : j = k then by rw [e]; exact c3 else hun hu j (by omega)), by rw [← jf q, nI_1], rfl⟩
          · rw [jt q]
            simp only [ixc h1, ixc h2]
            simp only [show (nI (40 * cl f + a' + cpJ bk n' k)).toNatClampNeg = 40 * cl f + a' + cpJ bk n' k from ncl (by omega), show (nI (40 * cl g + b' + cpJ bk n' k)).toNatClampNeg = 40 * cl g + b' + cpJ bk n' k from ncl (by omega), mcp_t _ _ _ _ _ _ _ (show ¬ (9 : Nat) = 8 by decide), hkf, hkg]
            refine ⟨fun c1 => ?_, fun c1 => ?_⟩
            · (repeat (first | refine And.intro hv1 ?_ | refine And.intro hv2 ?_ | refine And.intro hva ?_ | refine And.intro hvb ?_ | refine And.intro (by decide) ?_))
              exact ⟨n - 1, by omega, k + 1, by omega, by omega, fun hu => absurd c1 hu.1, by rw [nI_1], rfl⟩
            · (repeat (first | refine And.intro hv1 ?_ | refine And.intro hv2 ?_ | refine And.intro (by decide) ?_))
              refine ⟨fun c2 => ?_, fun c2 => ?_⟩
              · (repeat (first | refine And.intro hv1 ?_ | refine And.intro hv2 ?_ | refine And.intro hva ?_ | refine And.intro hvb ?_ | refine And.intro (by decide) ?_))
                exact ⟨n - 1, by omega, k + 1, by omega, by omega, fun hu => absurd c2 hu.2, by rw [nI_1], rfl⟩
              · have hu : ¬ kf < 7 ∧ ¬ kf = kg := ⟨c1, c2⟩
                have hne : ¬ cl f = cl g := fun q => c2 (by rw [← hkf, ← hkg]; show N1.1 9 0 (cl f) = N1.1 9 0 (cl g); rw [q])
                have hsrc : (m_cp N1 (cl f) a' (cl g) b' n' bk k).2.1 12 0 (40 * cl f + a' + cpJ bk n' k) = N1.2.1 12 0 (40 * cl f + (a' + cpJ bk n' k)) := by
                  rw [show 40 * cl f + a' + cpJ bk n' k = 40 * cl f + (a' + cpJ bk n' k) by omega]
                  exact mcp_src hne (by omega) (by omega) k (by omega)
                have hpre : ¬ lg_cmp ((m_cp N1 (cl f) a' (cl g) b' n' bk k).2.1 12 0 (40 * cl f + a' + cpJ bk n' k)) 0 < 0 → vp_in ((m_cp N1 (cl f) a' (cl g) b' n' bk k).2.1 12 0 (40 * cl f + a' + cpJ bk n' k)).toInt32 40 := by
                  rw [hsrc]
                  exact pOK_in (hpok _ (by omega) c1)
                (repeat (first | refine And.intro hv1 ?_ | refine And.intro hv2 ?_ | refine And.intro hva ?_ | refine And.intro hvb ?_ | refine And.intro hpre ?_ | refine And.intro (by decide) ?_))
                simp only [mTak_cp]
                refine ⟨fun c3 => ?_, fun c3 => ?_⟩
                · exact hst hu k hlt (hun hu) c3
                · (repeat (first | refine And.intro hv1 ?_ | refine And.intro hv2 ?_ | refine And.intro hva ?_ | refine And.intro hvb ?_ | refine And.intro (by decide) ?_))
                  exact ⟨n - 1, by omega, k + 1, by omega, by omega, fun _ j hj => (if e : j = k then by rw [e]; exact c3 else hun hu j (by omega)), by rw [nI_1], rfl⟩
        · have hge : k = n' := by
            have := mt (nI_ltI (a := k) (b := n') (by omega) (by omega)).mpr c
            omega
          subst hge
          exact hend hun
      refine ⟨by simp only [lk, wd, rm1, rm2, pick, popn, catS, pushO, aLV, cond_true, cond_false, Bool.not_true, Bool.not_false, Bool.and_true, Bool.and_false, Bool.true_and, Bool.false_and, eq_self, true_and, and_true, Nat.reduceBEq, Nat.reduceAdd, reduceIte, Nat.reduceEqDiff]; decide, sBX3_copy_0 F hr hlk (SO_or hL) _ _ _ ?_⟩
      simp only [BX3_copy_0, BX3_copy_61, BX3_copy_81, BX3_copy_107, BX3_copy_161, BX3_copy_162, BX3_copy_167, BX3_copy_191, BX3_copy_259, i_push, i_iload, i_aload, i_istore, i_iinc, i_II, i_dup, i_if, i_cmp, i_getI, i_getR, i_putI, i_iald, i_lald, i_dald, i_last, i_dast, i_call, i_callV, i_iret, i_cut, lk, wd, rm1, rm2, pick, popn, catS, pushO, aLV, cond_true, cond_false, Bool.not_true, Bool.not_false, Bool.and_true, Bool.and_false, Bool.true_and, Bool.false_and, eq_self, true_and, and_true, Nat.reduceBEq, Nat.reduceAdd, reduceIte, Nat.reduceEqDiff, SX3_isNone, SX3_isPlace, SX3_reaches, SX3_takes]
      try simp only [tCnt, aK, aN, aR, eq_self, true_and, and_true, Nat.reduceLeDiff, Nat.reduceEqDiff]
      simp only [show sI M 8 0 0 0 = z0 M from rfl, ← hN]
      simp only [b2i_0, Bool.not_eq_true, Bool.not_eq_false]
      simp only [mNone_16, sI_o (show ¬ (9 : Nat) = 8 by decide), sI_o (show ¬ (10 : Nat) = 8 by decide)]
      simp only [h1, h2, h3, h4, h7, h8', h9', hkf0, hkg0, Bool.true_eq_false, Bool.false_eq_true, not_true_eq_false, not_false_eq_true, true_implies, false_implies, true_and, and_true]
      have h5' : kf < 7 ↔ kg < 7 := by rw [← hkf0, ← hkg0]; exact h5
      have h6' : kf < 7 → kf = kg := by rw [← hkf0, ← hkg0]; exact h6
      have ent : ∀ x6 x7 : Int32, b2i (¬ kf < 7) = x6 → b2i (bk = true) = x7 → ∃ n k : Nat, k ≤ n' ∧ n = n' - k ∧ (¬ kf < 7 ∧ ¬ kf = kg → ∀ j, j < k → cpT N1 (cl f) a' (cl g) b' n' bk kg j = true) ∧ [(0, (Sum.inr (8, 0) : AV)), (1, .inl (.int f)), (2, .inl (.int (nI a'))), (3, .inl (.int g)), (4, .inl (.int (nI b'))), (5, .inl (.int (nI n'))), (6, .inl (.int x6)), (7, .inl (.int x7)), (8, .inl (.int 0))] = [(0, .inr (8, 0)), (1, .inl (.int f)), (2, .inl (.int (nI a'))), (3, .inl (.int g)), (4, .inl (.int (nI b'))), (5, .inl (.int (nI n'))), (6, .inl (.int (b2i (¬ kf < 7)))), (7, .inl (.int (b2i (bk = true)))), (8, .inl (.int (nI k)))] ∧ sI N 8 0 16 0 = m_cp N1 (cl f) a' (cl g) b' n' bk k := by
        intro x6 x7 e6 e7
        exact ⟨n', 0, by omega, by omega, fun _ j hj => absurd hj (Nat.not_lt_zero j), by rw [e6, e7]; rfl, hN1.symm⟩
      have bt : f = g → nI a' < nI b' → b2i (bk = true) = 1 := fun q1 q2 => b2i_t (by rw [hbk]; exact decide_eq_true ⟨q1, q2⟩)
      have bf : ¬ (f = g ∧ nI a' < nI b') → b2i (bk = true) = 0 := fun q1 => b2i_f (by rw [hbk, decide_eq_false q1]; decide)
      (repeat (first | refine And.intro hv1 ?_ | refine And.intro hv2 ?_ | refine And.intro (by decide) ?_))
      refine ⟨fun c1 => ?_, fun c1 => ?_⟩
      · have e6 : b2i (¬ kf < 7) = 0 := b2i_f (fun q => q c1)
        (repeat (first | refine And.intro hv1 ?_ | refine And.intro hv2 ?_ | refine And.intro (by decide) ?_))
        refine ⟨fun c2 => ?_, fun c2 => absurd (h5'.mp c1) c2⟩
        (repeat (first | refine And.intro hv1 ?_ | refine And.intro hv2 ?_ | refine And.intro (by decide) ?_))
        (try refine ⟨fun c3 => ?_, fun c3 => absurd (h6' c1) c3⟩)
        (repeat (first | refine And.intro hv1 ?_ | refine And.intro hv2 ?_ | refine And.intro (by decide) ?_))
        exact ⟨fun q1 => ⟨fun q2 => ent 0 1 e6 (bt q1 q2), fun q2 => ent 0 0 e6 (bf (fun q => q2 q.2))⟩, fun q1 => ent 0 0 e6 (bf (fun q => q1 q.1))⟩
      · have e6 : b2i (¬ kf < 7) = 1 := b2i_t c1
        (repeat (first | refine And.intro hv1 ?_ | refine And.intro hv2 ?_ | refine And.intro (by decide) ?_))
        refine ⟨fun c2 => absurd (h5'.mpr c2) c1, fun c2 => ?_⟩
        (repeat (first | refine And.intro hv1 ?_ | refine And.intro hv2 ?_ | refine And.intro (by decide) ?_))
        refine ⟨fun q9 => absurd q9 (by decide), fun _ => ?_⟩
        (repeat (first | refine And.intro hv1 ?_ | refine And.intro hv2 ?_ | refine And.intro (by decide) ?_))
        exact ⟨fun q1 => ⟨fun q2 => ent 1 1 e6 (bt q1 q2), fun q2 => ent 1 0 e6 (bf (fun q => q2 q.2))⟩, fun q1 => ent 1 0 e6 (bf (fun q => q1 q.1))⟩
    · refine ⟨by simp only [lk, wd, rm1, rm2, pick, popn, catS, pushO, aLV, cond_true, cond_false, Bool.not_true, Bool.not_false, Bool.and_true, Bool.and_false, Bool.true_and, Bool.false_and, eq_self, true_and, and_true, Nat.reduceBEq, Nat.reduceAdd, reduceIte, Nat.reduceEqDiff]; decide, sBX3_copy_0 F hr hlk SO_no _ _ _ ?_⟩
      simp only [BX3_copy_0, BX3_copy_61, BX3_copy_81, BX3_copy_107, BX3_copy_161, BX3_copy_162, BX3_copy_167, BX3_copy_191, BX3_copy_259, i_push, i_iload, i_aload, i_istore, i_iinc, i_II, i_dup, i_if, i_cmp, i_getI, i_getR, i_putI, i_iald, i_lald, i_dald, i_last, i_dast, i_call, i_callV, i_iret, i_cut, lk, wd, rm1, rm2, pick, popn, catS, pushO, aLV, cond_true, cond_false, Bool.not_true, Bool.not_false, Bool.and_true, Bool.and_false, Bool.true_and, Bool.false_and, eq_self, true_and, and_true, Nat.reduceBEq, Nat.reduceAdd, reduceIte, Nat.reduceEqDiff, SX3_isNone, SX3_isPlace, SX3_reaches, SX3_takes]
      try simp only [tCnt, aK, aN, aR, eq_self, true_and, and_true, Nat.reduceLeDiff, Nat.reduceEqDiff]
      simp only [show sI M 8 0 0 0 = z0 M from rfl, ← hN]
      simp only [b2i_0, Bool.not_eq_true, Bool.not_eq_false]
      simp only [mNone_16, sI_o (show ¬ (9 : Nat) = 8 by decide), sI_o (show ¬ (10 : Nat) = 8 by decide)]
      unfold m_copy at hS
      (repeat' (first | with_reducible assumption | exact hP1 _ (by with_reducible assumption) | apply And.intro | intro _)) <;> (first | with_reducible assumption | (exfalso; with_reducible contradiction) | (simp_all [-Int32.not_lt]; done) | (simp_all; done))
  · exact hS.elim
