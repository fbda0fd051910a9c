/-! ===== constructors ===== -/
theorem cy_eq {D : va_G} {cl : List vw_C} {tys : List (ClassId × FieldType)} {U : State} {a b : ClassId} {ty : FieldType} (hK : va_K D cl tys U) {i j : Nat} (hi : tys[i]? = some (a, ty)) (hj : tys[j]? = some (b, ty)) : a = b := by
  have h1 := (hK.2 i _ hi).2
  have h2 := (hK.2 j _ hj).2
  cases ty with
  | object C =>
    obtain ⟨_, _, _, _, _, h1⟩ := h1
    obtain ⟨_, _, _, _, _, h2⟩ := h2
    exact Option.some.inj (h1.symm.trans h2)
  | _ => exact Option.some.inj (h1.symm.trans h2)
/-- a list of cells by a function -/
def fl (N : Nat) (f : Nat → Nat × va_E) : va_W := (List.range N).map f
theorem fl_at {N n : Nat} {f : Nat → Nat × va_E} (h : n < N) : (fl N f)[n]? = some (f n) := by
  unfold fl
  rw [List.getElem?_map, List.getElem?_range h]
  rfl
theorem fl_in {N n : Nat} {f : Nat → Nat × va_E} {q : Nat × va_E} (h : (fl N f)[n]? = some q) : n < N ∧ q = f n := by
  rcases Nat.lt_or_ge n N with hn | hn
  · rw [fl_at hn] at h
    exact ⟨hn, (Option.some.inj h).symm⟩
  · unfold fl at h
    rw [List.getElem?_eq_none (by simpa using hn)] at h
    cases h
theorem fl_congr {N : Nat} {f g : Nat → Nat × va_E} (h : ∀ n, n < N → f n = g n) : fl N f = fl N g := by
  unfold fl
  exact List.map_congr_left (fun n hn => h n (List.mem_range.mp hn))
theorem fl_push (N : Nat) (f : Nat → Nat × va_E) (x : Nat × va_E) : fl N f ++ [x] = fl (N + 1) (va_up f N x) := by
  have e : fl N f = fl N (va_up f N x) := fl_congr (fun n hn => (va_up_ne f x (by omega)).symm)
  rw [e]
  unfold fl
  rw [List.range_succ, List.map_append, List.map_singleton, va_up_self]
theorem fl_set {N k : Nat} (f : Nat → Nat × va_E) (x : Nat × va_E) (h : k < N) : (fl N f).set k x = fl N (va_up f k x) := by
  refine List.ext_getElem? fun n => ?_
  rw [List.getElem?_set]
  by_cases e : k = n
  · subst e
    rw [if_pos rfl, if_pos (by unfold fl; simpa using h), fl_at h, va_up_self]
  · rw [if_neg e]
    rcases Nat.lt_or_ge n N with hn | hn
    · rw [fl_at hn, fl_at hn, va_up_ne f x (fun q => e q.symm)]
    · unfold fl
      rw [List.getElem?_eq_none (by simpa using hn), List.getElem?_eq_none (by simpa using hn)]
theorem fl_app3 (N : Nat) (f : Nat → Nat × va_E) (a b c : Nat × va_E) : fl N f ++ [a, b, c] = fl (N + 3) (va_up (va_up (va_up f N a) (N + 1) b) (N + 2) c) := by
  rw [show [a, b, c] = [a] ++ ([b] ++ [c]) from rfl, ← List.append_assoc, ← List.append_assoc, fl_push, fl_push, fl_push]
/-- behind a call whose world is the last cell alone -/
theorem join_last {A0 : Nat → Prop} {D : va_G} {cl : List vw_C} {ws w1 : va_W} {x : Nat × va_E} {H H1 : Heap} (hP : va_P D cl (ws ++ [x]) H) (hD : va_D A0 (ws ++ [x])) (hk : ∀ q : Nat, q < H.size → ¬ va_A [x] H.size q → H1[q]? = H[q]?) (hF : ∀ q, va_A [x] H.size q → A0 q) (hP1 : va_P D cl w1 H1) (hD1 : va_D (va_A [x] H.size) w1) : va_P D cl (ws ++ w1) H1 ∧ va_D A0 (ws ++ w1) := by
  have atL : ∀ (k : Nat) (q : Nat × va_E), ws[k]? = some q → (ws ++ [x])[k]? = some q := fun k q hq => by
    rw [List.getElem?_append_left (List.getElem?_eq_some_iff.mp hq).1]; exact hq
  have atX : (ws ++ [x])[ws.length]? = some x := by simp
  have apart : ∀ (k : Nat) (q : Nat × va_E), ws[k]? = some q → q.1 < H.size ∧ ¬ va_A [x] H.size q.1 := by
    intro k q hq
    have hl := (hP k q (atL k q hq)).lt
    refine ⟨hl, fun h => ?_⟩
    rcases h with ⟨k2, e, h⟩ | h
    · have h3 : (q.1, e) = x := by
        have := List.mem_of_getElem? h
        simpa using this
      have h4 := hD.1 k ws.length q x (atL k q hq) atX (by rw [← h3])
      have := (List.getElem?_eq_some_iff.mp hq).1
      omega
    · omega
  have dL : va_D A0 ws := ⟨fun i j a b ha hb e => hD.1 i j a b (atL i a ha) (atL j b hb) e, fun k q hq => hD.2 k q (atL k q hq)⟩
  refine ⟨va_P.app (fun k q hq => ?_) hP1, va_D.app dL (hD1.weaken (fun k q _ h => hF q.1 h)) (fun i j a b ha hb hab => ?_)⟩
  · obtain ⟨g1, g2⟩ := apart k q hq
    exact (hP k q (atL k q hq)).kept (hk q.1 g1 g2)
  · exact (apart i a ha).2 (by rw [hab]; exact hD1.2 j b hb)
abbrev rmX0_init : Room := { frames := 1, cells := 2, slots := 80, locals := 12 }
set_option maxHeartbeats 4000000 in
set_option maxRecDepth 100000 in
theorem ctX0_init (l : Launch) (cy dC : Nat → ClassId) (dI : Nat → Nat → Nat) (h0 sz : Nat) : Met l yX0_init (ws_ yX0_init cX0_init 1 none) rmX0_init (va_Pc [.ref h0] (fun U => U.heap.size = sz ∧ va_P (dC, dI) mcl [(h0, .inr (0, [.int 0, .int 0, .null, .null]))] U.heap ∧ va_K (dC, dI) mcl (tys cy) U ∧ va_D (fun _ => True) [(h0, .inr (0, [.int 0, .int 0, .null, .null]))])) (va_Qv (fun _ : Nat × Nat => True) (fun (u : Nat × Nat) t => va_P (dC, dI) mcl [(h0, .inr (0, [.int (-1), .int (-1), .ref u.1, .ref u.2])), (u.1, .inl (cy 2, 40, .inr (.inl (fun _ => 0)))), (u.2, .inl (cy 3, 40, .inr (.inr (.inr (.inl (fun _ => 0))))))] t.heap ∧ va_D (va_A [(h0, .inr (0, [.int 0, .int 0, .null, .null]))] sz) [(h0, .inr (0, [.int (-1), .int (-1), .ref u.1, .ref u.2])), (u.1, .inl (cy 2, 40, .inr (.inl (fun _ => 0)))), (u.2, .inl (cy 3, 40, .inr (.inr (.inr (.inl (fun _ => 0))))))]) (va_A [(h0, .inr (0, [.int 0, .int 0, .null, .null]))] sz)) 2 80 (va_A [(h0, .inr (0, [.int 0, .int 0, .null, .null]))] sz) := by
  refine Met.ofW (cc := cX0_init) (maxL := 1) (ret := none) (by decide) rfl ?_
  intro p e s m args below meth c s₁ B hml hv
  obtain ⟨rfl, hsz, hP, hK, hD0⟩ := hv
  have hx := B.exec
  have hb := B.bytes
  have hr := B.returns
  have hts0 := atoms_spec (ws := ws_ yX0_init cX0_init 1 none) B.pre
  have hts : ∀ w ∈ lw_all, w.before _ s = true := fun w hw => hts0 w (List.mem_cons_of_mem _ hw)
  have hown : s.vm.findClass RX0 = some m.cls := findClass_of_methodNamed B.named
  have hlocks := B.notSynchronized
  have hin : meth.name = "<init>" := (name_of_methodNamed B.named B.method).1
  subst hsz
  have hD := hD0.self (sz := s.heap.size)
  generalize hAe : va_A [(h0, .inr (0, [.int 0, .int 0, .null, .null]))] s.heap.size = A at hD ⊢
  have hA : ∀ q : Nat, s.heap.size ≤ q → A q := fun q h => by rw [← hAe]; exact Or.inr h
  have hS : va_S A s.heap s.heap [] := va_S.rf
  have hP : va_P (dC, dI) mcl [(h0, .inr (0, [.int 0, .int 0, .null, .null]))] s.heap := hP
  have hl := lv_entry ([.ref h0]) (n := 1) (Nat.le_of_ble_eq_true rfl)
  rw [lg_entry_eq]
  generalize (lg_sl ([.ref h0]) ++ List.replicate (1 - (lg_sl ([.ref h0])).length) Slot.unset).toArray = ls at hl ⊢
  have hl : lv_has ls 1 [(0, .ref h0)] := hl
  refine lv_aload_n hx hb dX0_init_0 rfl (lv_at hl 0 rfl) ?_
  refine W.objInit hx hb hown (hts _ q30) (hts _ q20) (hts _ q21) rfl (by rw [hml]; exact hl.1) rfl dX0_init_1 (Nat.le_of_ble_eq_true rfl) (Nat.le_of_ble_eq_true rfl) ?_
  refine W.eq (g2 := F0 m 4 ls []) rfl ?_
  refine lv_aload_n hx hb dX0_init_4 rfl (lv_at hl 0 rfl) ?_
  refine lv_iconst (v := -1) hx hb dX0_init_5 (by decide) ?_
  refine va_put (D := (dC, dI)) (ci := 0) (v := .int (-1)) (ty := .int) (C := RX0) (T := TX0) (N := 4) hx hb hts in_X0 tyX0 tyX0_ok nmX0 hown hK hP hD hS 0 rfl rfl 0 (by decide) (hts _ q31) (fun _ h9 => h9) rfl (by decide +kernel) rfl rfl (Nat.le_of_ble_eq_true rfl) dX0_init_6 (fun H locs hP hD hS => ?_)
  have hP : va_P (dC, dI) mcl [(h0, .inr (0, [.int (-1), .int 0, .null, .null]))] H := hP
  have hD : va_D A [(h0, .inr (0, [.int (-1), .int 0, .null, .null]))] := hD
  refine lv_aload_n hx hb dX0_init_9 rfl (lv_at hl 0 rfl) ?_
  refine lv_iconst (v := -1) hx hb dX0_init_10 (by decide) ?_
  refine va_put (D := (dC, dI)) (ci := 0) (v := .int (-1)) (ty := .int) (C := RX0) (T := TX0) (N := 4) hx hb hts in_X0 tyX0 tyX0_ok nmX0 hown hK hP hD hS 0 rfl rfl 1 (by decide) (hts _ q33) (fun _ h9 => h9) rfl (by decide +kernel) rfl rfl (Nat.le_of_ble_eq_true rfl) dX0_init_11 (fun H locs hP hD hS => ?_)
  have hP : va_P (dC, dI) mcl [(h0, .inr (0, [.int (-1), .int (-1), .null, .null]))] H := hP
  have hD : va_D A [(h0, .inr (0, [.int (-1), .int (-1), .null, .null]))] := hD
  refine lv_aload_n hx hb dX0_init_14 rfl (lv_at hl 0 rfl) ?_
  refine lv_bipush (v := 40) hx hb dX0_init_15 (by decide) ?_
  refine va_newa (atype := .long) (ty := .long) (a0 := (40, .inr (.inl (fun _ => 0)))) (N' := 40) hx hb (hts _ q46) rfl hK hP hD hS hA (fun _ => rfl) (by decide) (by decide) (by decide) (Nat.le_of_ble_eq_true rfl) (Nat.le_of_ble_eq_true rfl) dX0_init_17 (fun q1 cA1 H hK1 hP hD hS => ?_)
  have e1 : cA1 = cy 2 := cy_eq hK1 (i := 6) (j := 2) rfl rfl
  subst e1
  clear hK1
  have hP : va_P (dC, dI) mcl [(h0, .inr (0, [.int (-1), .int (-1), .null, .null])), (q1, .inl (cy 2, 40, .inr (.inl (fun _ => 0))))] H := hP
  have hD : va_D A [(h0, .inr (0, [.int (-1), .int (-1), .null, .null])), (q1, .inl (cy 2, 40, .inr (.inl (fun _ => 0))))] := hD
  refine va_putF (D := (dC, dI)) (ci := 0) (v := .ref q1) (ty := .array .long) (C := RX0) (T := TX0) (N := 4) hx hb hts in_X0 tyX0 tyX0_ok nmX0 hown hK hP hD hS 0 rfl rfl 2 (by decide) (hts _ q35) (fun _ h9 => h9) rfl hin rfl (by decide +kernel) rfl rfl (Nat.le_of_ble_eq_true rfl) dX0_init_19 (fun H locs hP hD hS => ?_)
  have hP : va_P (dC, dI) mcl [(h0, .inr (0, [.int (-1), .int (-1), .ref q1, .null])), (q1, .inl (cy 2, 40, .inr (.inl (fun _ => 0))))] H := hP
  have hD : va_D A [(h0, .inr (0, [.int (-1), .int (-1), .ref q1, .null])), (q1, .inl (cy 2, 40, .inr (.inl (fun _ => 0))))] := hD
  refine lv_aload_n hx hb dX0_init_22 rfl (lv_at hl 0 rfl) ?_
  refine lv_bipush (v := 40) hx hb dX0_init_23 (by decide) ?_
  refine va_newa (atype := .double) (ty := .double) (a0 := (40, .inr (.inr (.inr (.inl (fun _ => 0)))))) (N' := 40) hx hb (hts _ q47) rfl hK hP hD hS hA (fun _ => rfl) (by decide) (by decide) (by decide) (Nat.le_of_ble_eq_true rfl) (Nat.le_of_ble_eq_true rfl) dX0_init_25 (fun q2 cA2 H hK1 hP hD hS => ?_)
  have e2 : cA2 = cy 3 := cy_eq hK1 (i := 6) (j := 3) rfl rfl
  subst e2
  clear hK1
  have hP : va_P (dC, dI) mcl [(h0, .inr (0, [.int (-1), .int (-1), .ref q1, .null])), (q1, .inl (cy 2, 40, .inr (.inl (fun _ => 0)))), (q2, .inl (cy 3, 40, .inr (.inr (.inr (.inl (fun _ => 0))))))] H := hP
  have hD : va_D A [(h0, .inr (0, [.int (-1), .int (-1), .ref q1, .null])), (q1, .inl (cy 2, 40, .inr (.inl (fun _ => 0)))), (q2, .inl (cy 3, 40, .inr (.inr (.inr (.inl (fun _ => 0))))))] := hD
  refine va_putF (D := (dC, dI)) (ci := 0) (v := .ref q2) (ty := .array .double) (C := RX0) (T := TX0) (N := 4) hx hb hts in_X0 tyX0 tyX0_ok nmX0 hown hK hP hD hS 0 rfl rfl 3 (by decide) (hts _ q36) (fun _ h9 => h9) rfl hin rfl (by decide +kernel) rfl rfl (Nat.le_of_ble_eq_true rfl) dX0_init_27 (fun H locs hP hD hS => ?_)
  have hP : va_P (dC, dI) mcl [(h0, .inr (0, [.int (-1), .int (-1), .ref q1, .ref q2])), (q1, .inl (cy 2, 40, .inr (.inl (fun _ => 0)))), (q2, .inl (cy 3, 40, .inr (.inr (.inr (.inl (fun _ => 0))))))] H := hP
  have hD : va_D A [(h0, .inr (0, [.int (-1), .int (-1), .ref q1, .ref q2])), (q1, .inl (cy 2, 40, .inr (.inl (fun _ => 0)))), (q2, .inl (cy 3, 40, .inr (.inr (.inr (.inl (fun _ => 0))))))] := hD
  refine W.widen (k := 2) (n := 80) (by decide) (by decide) ?_
  exact W.vret hx hb hr (fun t ht hW => ⟨⟨(q1, q2), rfl, trivial, by rw [ht]; exact hP, hD⟩, hS.F ht⟩) hS.2.2 dX0_init_30
abbrev rmX1_init : Room := { frames := 1, cells := 0, slots := 0, locals := 12 }
set_option maxHeartbeats 4000000 in
set_option maxRecDepth 100000 in
theorem ctX1_init (l : Launch) (cy dC : Nat → ClassId) (dI : Nat → Nat → Nat) (h0 sz : Nat) : Met l yX1_init (ws_ yX1_init cX1_init 1 none) rmX1_init (va_Pc [.ref h0] (fun U => U.heap.size = sz ∧ va_P (dC, dI) mcl [(h0, .inr (1, [.int 0, .int 0, .int 0, .int 0]))] U.heap ∧ va_K (dC, dI) mcl (tys cy) U ∧ va_D (fun _ => True) [(h0, .inr (1, [.int 0, .int 0, .int 0, .int 0]))])) (va_Qv (fun _ : Unit => True) (fun (u : Unit) t => va_P (dC, dI) mcl [(h0, .inr (1, [.int 0, .int 0, .int 0, .int (-1)]))] t.heap ∧ va_D (va_A [(h0, .inr (1, [.int 0, .int 0, .int 0, .int 0]))] sz) [(h0, .inr (1, [.int 0, .int 0, .int 0, .int (-1)]))]) (va_A [(h0, .inr (1, [.int 0, .int 0, .int 0, .int 0]))] sz)) 0 0 (va_A [(h0, .inr (1, [.int 0, .int 0, .int 0, .int 0]))] sz) := by
  refine Met.ofW (cc := cX1_init) (maxL := 1) (ret := none) (by decide) rfl ?_
  intro p e s m args below meth c s₁ B hml hv
  obtain ⟨rfl, hsz, hP, hK, hD0⟩ := hv
  have hx := B.exec
  have hb := B.bytes
  have hr := B.returns
  have hts0 := atoms_spec (ws := ws_ yX1_init cX1_init 1 none) B.pre
  have hts : ∀ w ∈ lw_all, w.before _ s = true := fun w hw => hts0 w (List.mem_cons_of_mem _ hw)
  have hown : s.vm.findClass RX1 = some m.cls := findClass_of_methodNamed B.named
  have hlocks := B.notSynchronized
  have hin : meth.name = "<init>" := (name_of_methodNamed B.named B.method).1
  subst hsz
  have hD := hD0.self (sz := s.heap.size)
  generalize hAe : va_A [(h0, .inr (1, [.int 0, .int 0, .int 0, .int 0]))] s.heap.size = A at hD ⊢
  have hA : ∀ q : Nat, s.heap.size ≤ q → A q := fun q h => by rw [← hAe]; exact Or.inr h
  have hS : va_S A s.heap s.heap [] := va_S.rf
  have hP : va_P (dC, dI) mcl [(h0, .inr (1, [.int 0, .int 0, .int 0, .int 0]))] s.heap := hP
  have hl := lv_entry ([.ref h0]) (n := 1) (Nat.le_of_ble_eq_true rfl)
  rw [lg_entry_eq]
  generalize (lg_sl ([.ref h0]) ++ List.replicate (1 - (lg_sl ([.ref h0])).length) Slot.unset).toArray = ls at hl ⊢
  have hl : lv_has ls 1 [(0, .ref h0)] := hl
  refine lv_aload_n hx hb dX1_init_0 rfl (lv_at hl 0 rfl) ?_
  refine W.objInit hx hb hown (hts _ q52) (hts _ q20) (hts _ q21) rfl (by rw [hml]; exact hl.1) rfl dX1_init_1 (Nat.le_of_ble_eq_true rfl) (Nat.le_of_ble_eq_true rfl) ?_
  refine W.eq (g2 := F0 m 4 ls []) rfl ?_
  refine lv_aload_n hx hb dX1_init_4 rfl (lv_at hl 0 rfl) ?_
  refine lv_iconst (v := 0) hx hb dX1_init_5 (by decide) ?_
  refine va_put (D := (dC, dI)) (ci := 1) (v := .int 0) (ty := .int) (C := RX1) (T := TX1) (N := 4) hx hb hts in_X1 tyX1 tyX1_ok nmX1 hown hK hP hD hS 0 rfl rfl 0 (by decide) (hts _ q53) (fun _ h9 => h9) rfl (by decide +kernel) rfl rfl (Nat.le_of_ble_eq_true rfl) dX1_init_6 (fun H locs hP hD hS => ?_)
  have hP : va_P (dC, dI) mcl [(h0, .inr (1, [.int 0, .int 0, .int 0, .int 0]))] H := hP
  have hD : va_D A [(h0, .inr (1, [.int 0, .int 0, .int 0, .int 0]))] := hD
  refine lv_aload_n hx hb dX1_init_9 rfl (lv_at hl 0 rfl) ?_
  refine lv_iconst (v := 0) hx hb dX1_init_10 (by decide) ?_
  refine va_put (D := (dC, dI)) (ci := 1) (v := .int 0) (ty := .int) (C := RX1) (T := TX1) (N := 4) hx hb hts in_X1 tyX1 tyX1_ok nmX1 hown hK hP hD hS 0 rfl rfl 1 (by decide) (hts _ q55) (fun _ h9 => h9) rfl (by decide +kernel) rfl rfl (Nat.le_of_ble_eq_true rfl) dX1_init_11 (fun H locs hP hD hS => ?_)
  have hP : va_P (dC, dI) mcl [(h0, .inr (1, [.int 0, .int 0, .int 0, .int 0]))] H := hP
  have hD : va_D A [(h0, .inr (1, [.int 0, .int 0, .int 0, .int 0]))] := hD
  refine lv_aload_n hx hb dX1_init_14 rfl (lv_at hl 0 rfl) ?_
  refine lv_iconst (v := 0) hx hb dX1_init_15 (by decide) ?_
  refine va_put (D := (dC, dI)) (ci := 1) (v := .int 0) (ty := .int) (C := RX1) (T := TX1) (N := 4) hx hb hts in_X1 tyX1 tyX1_ok nmX1 hown hK hP hD hS 0 rfl rfl 2 (by decide) (hts _ q56) (fun _ h9 => h9) rfl (by decide +kernel) rfl rfl (Nat.le_of_ble_eq_true rfl) dX1_init_16 (fun H locs hP hD hS => ?_)
  have hP : va_P (dC, dI) mcl [(h0, .inr (1, [.int 0, .int 0, .int 0, .int 0]))] H := hP
  have hD : va_D A [(h0, .inr (1, [.int 0, .int 0, .int 0, .int 0]))] := hD
  refine lv_aload_n hx hb dX1_init_19 rfl (lv_at hl 0 rfl) ?_
  refine lv_iconst (v := -1) hx hb dX1_init_20 (by decide) ?_
  refine va_put (D := (dC, dI)) (ci := 1) (v := .int (-1)) (ty := .int) (C := RX1) (T := TX1) (N := 4) hx hb hts in_X1 tyX1 tyX1_ok nmX1 hown hK hP hD hS 0 rfl rfl 3 (by decide) (hts _ q58) (fun _ h9 => h9) rfl (by decide +kernel) rfl rfl (Nat.le_of_ble_eq_true rfl) dX1_init_21 (fun H locs hP hD hS => ?_)
  have hP : va_P (dC, dI) mcl [(h0, .inr (1, [.int 0, .int 0, .int 0, .int (-1)]))] H := hP
  have hD : va_D A [(h0, .inr (1, [.int 0, .int 0, .int 0, .int (-1)]))] := hD
  exact W.vret hx hb hr (fun t ht hW => ⟨⟨(), rfl, trivial, by rw [ht]; exact hP, hD⟩, hS.F ht⟩) hS.2.2 dX1_init_24
