/-! ===== a method out of its blocks ===== -/
theorem in_X0 : ∀ w ∈ u_ws RX0 TX0 4, w ∈ lw_all := by
  intro w hw
  obtain ⟨k, hk, rfl⟩ := List.mem_map.mp hw
  have hk := List.mem_range.mp hk
  match k, hk with
  | 0, _ => exact q37
  | 1, _ => exact q39
  | 2, _ => exact q41
  | 3, _ => exact q43
theorem in_X1 : ∀ w ∈ u_ws RX1 TX1 4, w ∈ lw_all := by
  intro w hw
  obtain ⟨k, hk, rfl⟩ := List.mem_map.mp hw
  have hk := List.mem_range.mp hk
  match k, hk with
  | 0, _ => exact q60
  | 1, _ => exact q62
  | 2, _ => exact q64
  | 3, _ => exact q66
theorem in_X2 : ∀ w ∈ u_ws RX2 TX2 5, w ∈ lw_all := by
  intro w hw
  obtain ⟨k, hk, rfl⟩ := List.mem_map.mp hw
  have hk := List.mem_range.mp hk
  match k, hk with
  | 0, _ => exact q74
  | 1, _ => exact q76
  | 2, _ => exact q78
  | 3, _ => exact q80
  | 4, _ => exact q82
theorem in_X3 : ∀ w ∈ u_ws RX3 TX3 17, w ∈ lw_all := by
  intro w hw
  obtain ⟨k, hk, rfl⟩ := List.mem_map.mp hw
  have hk := List.mem_range.mp hk
  match k, hk with
  | 0, _ => exact q484
  | 1, _ => exact q486
  | 2, _ => exact q488
  | 3, _ => exact q490
  | 4, _ => exact q492
  | 5, _ => exact q494
  | 6, _ => exact q496
  | 7, _ => exact q498
  | 8, _ => exact q500
  | 9, _ => exact q502
  | 10, _ => exact q504
  | 11, _ => exact q506
  | 12, _ => exact q508
  | 13, _ => exact q510
  | 14, _ => exact q512
  | 15, _ => exact q514
  | 16, _ => exact q516
  | k + 17, h9 => exact absurd h9 (by omega)
def aLV : Nat → List AV → LV
  | _, [] => []
  | n, v :: r => (n, v) :: aLV (bif wd v then n + 2 else n + 1) r
theorem aLV_eq (G : Nat → Nat → Nat) (as : List AV) : ∀ n : Nat, lv_args n (as.map (cv G)) = cL G (aLV n as) := by
  induction as with
  | nil => intro n; rfl
  | cons v r ih =>
    intro n
    simp only [List.map_cons, lv_args, aLV, cL]
    rw [ih]
    have h := wd_cat G v
    rcases lv_cat (cv G v) with h2 | h2 <;> rw [h2] at h ⊢ <;> rw [← h] <;> rfl
theorem aLen (G : Nat → Nat → Nat) (as : List AV) : (lg_sl (as.map (cv G))).length = catS as := by
  induction as with
  | nil => rfl
  | cons v r ih =>
    have e : lg_sl ((v :: r).map (cv G)) = (if (cv G v).category = 2 then [.val (cv G v), .second] else [.val (cv G v)]) ++ lg_sl (r.map (cv G)) := rfl
    rw [e, List.length_append, ih]
    have h := wd_cat G v
    show _ = (bif wd v then 2 else 1) + catS r
    rcases lv_cat (cv G v) with h2 | h2 <;> rw [h2] at h <;> rw [← h, h2] <;> rfl
theorem AW_GD {G : Nat → Nat → Nat} (h : GJ G) : GD (AW G) G := ⟨h, fun t i hi => ⟨t, i, hi, rfl⟩⟩
theorem mk_CI {l : Launch} {y : MethodName} {cc : ByteArray} {maxL : Nat} {ret : Option FieldType} {rm : Room} {S : SP} (hy : plainName y.cls = true)
    (body : ∀ (p : Program) (e : Env) (s : State) (m : MethodId) (args : Array Value) (below : List Frame) (meth : Method) (c : Code) (G : Nat → Nat → Nat) (cy dC : Nat → ClassId) (dI : Nat → Nat → Nat), FX p m c cc maxL y.cls s args (AW G) G cy dC dI → meth.sig.returnType = ret → meth.locks = false →
      ∀ (as : List AV) (M : MM) (post : Option AV → MM → Prop), S as M post → catS as ≤ maxL ∧ SW p l e rm s m args below meth c 0 0 (MQ below (QI G cy dC dI post) args s 0 0 (AW G)) maxL (AW G) G cy dC dI 0 (aLV 0 as) [] M) : CI l y (ws_ y cc maxL ret) rm S := by
  intro G cy dC dI hG as M post hS0
  refine Met.ofW (cc := cc) (maxL := maxL) (ret := ret) hy rfl ?_
  intro p e s m args below meth c s₁ B hml hv
  obtain ⟨rfl, hP, hK, hN⟩ := hv
  have hts := atoms_spec (ws := ws_ y cc maxL ret) B.pre
  have hF : FX p m c cc maxL y.cls s (as.map (cv G)).toArray (AW G) G cy dC dI := ⟨B.exec, B.bytes, hml, findClass_of_methodNamed B.named, fun w hw => hts w (List.mem_cons_of_mem _ hw), hK, hN, AW_GD hG⟩
  obtain ⟨h1, h2⟩ := body p e s m _ below meth c G cy dC dI hF B.returns B.notSynchronized as M post hS0
  have hl := lv_entry (as.map (cv G)) (n := maxL) (by rw [aLen]; exact h1)
  rw [lg_entry_eq]
  rw [aLV_eq] at hl
  exact h2 s.heap [] _ hP va_S.rf hl
theorem mk_CL {l : Launch} {y : MethodName} {cc : ByteArray} {maxL : Nat} {ret : Option FieldType} {rm : Room} {S : SP} (hy : plainName y.cls = true)
    (body : ∀ (p : Program) (e : Env) (s : State) (m : MethodId) (args : Array Value) (below : List Frame) (meth : Method) (c : Code) (G : Nat → Nat → Nat) (cy dC : Nat → ClassId) (dI : Nat → Nat → Nat), FX p m c cc maxL y.cls s args (AW G) G cy dC dI → meth.sig.returnType = ret → meth.locks = false →
      ∀ (as : List AV) (M : MM) (post : Option AV → MM → Prop), S as M post → catS as ≤ maxL ∧ SW p l e rm s m args below meth c 0 0 (MQ below (QL G cy dC dI post) args s 0 0 (AW G)) maxL (AW G) G cy dC dI 0 (aLV 0 as) [] M) : CL l y (ws_ y cc maxL ret) rm S := by
  intro G cy dC dI hG as M post hS0
  refine Met.ofW (cc := cc) (maxL := maxL) (ret := ret) hy rfl ?_
  intro p e s m args below meth c s₁ B hml hv
  obtain ⟨rfl, hP, hK, hN⟩ := hv
  have hts := atoms_spec (ws := ws_ y cc maxL ret) B.pre
  have hF : FX p m c cc maxL y.cls s (as.map (cv G)).toArray (AW G) G cy dC dI := ⟨B.exec, B.bytes, hml, findClass_of_methodNamed B.named, fun w hw => hts w (List.mem_cons_of_mem _ hw), hK, hN, AW_GD hG⟩
  obtain ⟨h1, h2⟩ := body p e s m _ below meth c G cy dC dI hF B.returns B.notSynchronized as M post hS0
  have hl := lv_entry (as.map (cv G)) (n := maxL) (by rw [aLen]; exact h1)
  rw [lg_entry_eq]
  rw [aLV_eq] at hl
  exact h2 s.heap [] _ hP va_S.rf hl
theorem mk_CV {l : Launch} {y : MethodName} {cc : ByteArray} {maxL : Nat} {ret : Option FieldType} {rm : Room} {S : SP} (hy : plainName y.cls = true)
    (body : ∀ (p : Program) (e : Env) (s : State) (m : MethodId) (args : Array Value) (below : List Frame) (meth : Method) (c : Code) (G : Nat → Nat → Nat) (cy dC : Nat → ClassId) (dI : Nat → Nat → Nat), FX p m c cc maxL y.cls s args (AW G) G cy dC dI → meth.sig.returnType = ret → meth.locks = false →
      ∀ (as : List AV) (M : MM) (post : Option AV → MM → Prop), S as M post → catS as ≤ maxL ∧ SW p l e rm s m args below meth c 0 0 (MQ below (QV G cy dC dI post) args s 0 0 (AW G)) maxL (AW G) G cy dC dI 0 (aLV 0 as) [] M) : CV l y (ws_ y cc maxL ret) rm S := by
  intro G cy dC dI hG as M post hS0
  refine Met.ofW (cc := cc) (maxL := maxL) (ret := ret) hy rfl ?_
  intro p e s m args below meth c s₁ B hml hv
  obtain ⟨rfl, hP, hK, hN⟩ := hv
  have hts := atoms_spec (ws := ws_ y cc maxL ret) B.pre
  have hF : FX p m c cc maxL y.cls s (as.map (cv G)).toArray (AW G) G cy dC dI := ⟨B.exec, B.bytes, hml, findClass_of_methodNamed B.named, fun w hw => hts w (List.mem_cons_of_mem _ hw), hK, hN, AW_GD hG⟩
  obtain ⟨h1, h2⟩ := body p e s m _ below meth c G cy dC dI hF B.returns B.notSynchronized as M post hS0
  have hl := lv_entry (as.map (cv G)) (n := maxL) (by rw [aLen]; exact h1)
  rw [lg_entry_eq]
  rw [aLV_eq] at hl
  exact h2 s.heap [] _ hP va_S.rf hl
section LP
variable {p : Program} {l : Launch} {e : Env} {R : Room} {s : State} {m : MethodId} {args : Array Value} {below : List Frame} {meth : Method} {c : Code} {cells slots : Nat} {Q : State → Prop} {nL : Nat} {A : Nat → Prop} {G : Nat → Nat → Nat} {cy : Nat → ClassId} {dC : Nat → ClassId} {dI : Nat → Nat → Nat}
theorem SO_no {pc : Nat} : SO p l e R s m args below meth c cells slots Q nL A G cy dC dI pc (fun _ _ _ => False) := fun _ _ _ h => h.elim
theorem SO_or {pc : Nat} {α : Type} {K : α → PT} (h : ∀ a, SO p l e R s m args below meth c cells slots Q nL A G cy dC dI pc (K a)) : SO p l e R s m args below meth c cells slots Q nL A G cy dC dI pc (fun lv st M => ∃ a, K a lv st M) := fun lv st M ⟨a, ha⟩ => h a lv st M ha
theorem SO_imp {pc : Nat} {K K2 : PT} (h : SO p l e R s m args below meth c cells slots Q nL A G cy dC dI pc K) (hi : ∀ lv st M, K2 lv st M → K lv st M) : SO p l e R s m args below meth c cells slots Q nL A G cy dC dI pc K2 := fun lv st M hk => h lv st M (hi lv st M hk)
/-- a loop: its head's block, with a measure that falls -/
theorem SO_loop {h : Nat} (B : PT → PT) (hB : ∀ K, SO p l e R s m args below meth c cells slots Q nL A G cy dC dI h K → SO p l e R s m args below meth c cells slots Q nL A G cy dC dI h (B K)) (Inv : Nat → PT) (step : ∀ n lv st M, Inv n lv st M → B (fun lv st M => ∃ n', n' < n ∧ Inv n' lv st M) lv st M) : ∀ n, SO p l e R s m args below meth c cells slots Q nL A G cy dC dI h (Inv n) := by
  intro n
  induction n using Nat.strongRecOn with
  | ind n ih =>
    intro lv st M hi
    exact hB _ (fun lv st M ⟨n', hn, hI⟩ => ih n' hn lv st M hI) lv st M (step n lv st M hi)
end LP
theorem b2i_0 (P : Prop) [Decidable P] : (b2i P = 0) = ¬ P := by unfold b2i; split <;> simp [*]
theorem b2i_1 (P : Prop) [Decidable P] : b2i P = 0 ∨ b2i P = 1 := by unfold b2i; split <;> simp
theorem b2i_t {P : Prop} [Decidable P] (h : P) : b2i P = 1 := if_pos h
theorem b2i_f {P : Prop} [Decidable P] (h : ¬ P) : b2i P = 0 := if_neg h
