theorem last_P {D : va_G} {cl : List vw_C} {ws : va_W} {x : Nat × va_E} {H : Heap} (h : va_P D cl (ws ++ [x]) H) : va_P D cl [x] H := fun k q hk => by
  have e : q = x := by
    have := List.mem_of_getElem? hk
    simpa using this
  subst e
  exact h ws.length q (by simp)
theorem last_D {A A' : Nat → Prop} {ws : va_W} {x : Nat × va_E} (h : va_D A (ws ++ [x])) (hx : A' x.1) : va_D A' [x] := by
  refine ⟨fun i j p q hi hj _ => ?_, fun k q hk => ?_⟩
  · have := (List.getElem?_eq_some_iff.mp hi).1
    have := (List.getElem?_eq_some_iff.mp hj).1
    simp at *
    omega
  · have e : q = x := by
      have := List.mem_of_getElem? hk
      simpa using this
    subst e
    exact hx
theorem last_F {A : Nat → Prop} {ws : va_W} {x : Nat × va_E} {H0 H : Heap} {locs : List Loc} (hD : va_D A (ws ++ [x])) (hS : va_S A H0 H locs) (hA : ∀ q, H0.size ≤ q → A q) : ∀ q, va_A [x] H.size q → A q := by
  intro q h
  rcases h with ⟨k, e, h⟩ | h
  · have e2 : (q, e) = x := by
      have := List.mem_of_getElem? h
      simpa using this
    have := hD.2 ws.length x (by simp)
    rw [← e2] at this
    exact this
  · exact hA q (Nat.le_trans hS.1 h)
/-- what MappingMoves' constructor needs besides good words -/
def NI (U : State) : Prop := va_AO "MappingMoves$Column" U ∧ va_AO "MappingMoves$Part" U ∧ va_Nw (.methodLinkNest RX2 31 yX0_init "MappingMoves") U ∧ va_Nw (.methodLinkNest RX2 32 yX1_init "MappingMoves") U
theorem NI.same {u U : State} (h : u.vm = U.vm) (hN : NI u) : NI U := ⟨hN.1.moved (by rw [h]; exact Vm.Alike.refl _), hN.2.1.moved (by rw [h]; exact Vm.Alike.refl _), hN.2.2.1.same rfl h, hN.2.2.2.same rfl h⟩
theorem NI.warm {u U : State} (h : u.WarmedH U.vm) (hN : NI u) : NI U := ⟨hN.1.moved h.alike, hN.2.1.moved h.alike, hN.2.2.1.warmM h, hN.2.2.2.warmM h⟩
/-- the cells of a MappingMoves under construction: k columns, j parts are there -/
def JC (h0 : Nat) (cy : Nat → ClassId) (f : Nat → Nat × va_E) (k j : Nat) : Prop :=
  f 0 = (h0, .inr (2, [.ref (f 1).1, .ref (f 2).1, .ref (f 3).1, .int 0, .int 0])) ∧
  (f 1).2 = .inl (cy 4, 24, .inr (.inr (.inr (.inr (fun i => if i < k ∧ i < 24 then some (f (4 + 3 * i)).1 else none))))) ∧
  (f 2).2 = .inl (cy 4, 6, .inr (.inr (.inr (.inr (fun i => if 24 + i < k then some (f (4 + 3 * (24 + i))).1 else none))))) ∧
  (f 3).2 = .inl (cy 5, 40, .inr (.inr (.inr (.inr (fun i => if i < j then some (f (94 + i)).1 else none))))) ∧
  (∀ i, i < k → (f (4 + 3 * i)).2 = .inr (0, [.int (-1), .int (-1), .ref (f (4 + 3 * i + 1)).1, .ref (f (4 + 3 * i + 2)).1]) ∧ (f (4 + 3 * i + 1)).2 = .inl (cy 2, 40, .inr (.inl (fun _ => 0))) ∧ (f (4 + 3 * i + 2)).2 = .inl (cy 3, 40, .inr (.inr (.inr (.inl (fun _ => 0)))))) ∧
  ∀ i, i < j → (f (94 + i)).2 = .inr (1, [.int 0, .int 0, .int 0, .int (-1)])
theorem JC_col {h0 : Nat} {cy : Nat → ClassId} {f F : Nat → Nat × va_E} {k : Nat} (h : JC h0 cy f k 0) (hk : k < 30) {q w d : Nat} (e : ∀ n, n < 4 + 3 * k → n ≠ 1 → n ≠ 2 → F n = f n) (a1 : (F 1).1 = (f 1).1) (a2 : (F 2).1 = (f 2).1)
    (c1 : F (4 + 3 * k) = (q, .inr (0, [.int (-1), .int (-1), .ref w, .ref d]))) (c2 : F (4 + 3 * k + 1) = (w, .inl (cy 2, 40, .inr (.inl (fun _ => 0))))) (c3 : F (4 + 3 * k + 2) = (d, .inl (cy 3, 40, .inr (.inr (.inr (.inl (fun _ => 0)))))))
    (s1 : (F 1).2 = if k < 24 then .inl (cy 4, 24, .inr (.inr (.inr (.inr (va_up (fun i => if i < k ∧ i < 24 then some (f (4 + 3 * i)).1 else none) k (some q)))))) else (f 1).2)
    (s2 : (F 2).2 = if k < 24 then (f 2).2 else .inl (cy 4, 6, .inr (.inr (.inr (.inr (va_up (fun i => if 24 + i < k then some (f (4 + 3 * (24 + i))).1 else none) (k - 24) (some q))))))) : JC h0 cy F (k + 1) 0 := by
  obtain ⟨h1, h2, h3, h4, h5, h6⟩ := h
  refine ⟨?_, ?_, ?_, ?_, fun i hi => ?_, fun i hi => absurd hi (Nat.not_lt_zero i)⟩
  · rw [e 0 (by omega) (by omega) (by omega), h1, a1, a2, e 3 (by omega) (by omega) (by omega)]
  · rw [s1]
    by_cases hk2 : k < 24
    · rw [if_pos hk2]
      congr 7
      funext i
      by_cases hi : i = k
      · subst hi
        rw [va_up_self, if_pos (by omega), c1]
      · rw [va_up_ne _ _ hi]
        by_cases hi2 : i < k ∧ i < 24
        · rw [if_pos hi2, if_pos (by omega), e _ (by omega) (by omega) (by omega)]
        · rw [if_neg hi2, if_neg (by omega)]
    · rw [if_neg hk2, h2]
      congr 7
      funext i
      by_cases hi2 : i < k ∧ i < 24
      · rw [if_pos hi2, if_pos (by omega), e _ (by omega) (by omega) (by omega)]
      · rw [if_neg hi2, if_neg (by omega)]
  · rw [s2]
    by_cases hk2 : k < 24
    · rw [if_pos hk2, h3]
      congr 7
      funext i
      rw [if_neg (by omega), if_neg (by omega)]
    · rw [if_neg hk2]
      congr 7
      funext i
      by_cases hi : i = k - 24
      · subst hi
        rw [va_up_self, if_pos (by omega), show 24 + (k - 24) = k by omega, c1]
      · rw [va_up_ne _ _ hi]
        by_cases hi2 : 24 + i < k
        · rw [if_pos hi2, if_pos (by omega), e _ (by omega) (by omega) (by omega)]
        · rw [if_neg hi2, if_neg (by omega)]
  · rw [e 3 (by omega) (by omega) (by omega), h4]
    congr 7
  · by_cases hi2 : i = k
    · subst hi2
      rw [c1, c2, c3]
      exact ⟨rfl, rfl, rfl⟩
    · rw [e _ (by omega) (by omega) (by omega), e _ (by omega) (by omega) (by omega), e _ (by omega) (by omega) (by omega)]
      exact h5 i (by omega)
theorem JC_part {h0 : Nat} {cy : Nat → ClassId} {f F : Nat → Nat × va_E} {j : Nat} (h : JC h0 cy f 30 j) (hj : j < 40) {q : Nat} (e : ∀ n, n < 94 + j → n ≠ 3 → F n = f n) (a3 : (F 3).1 = (f 3).1)
    (c1 : F (94 + j) = (q, .inr (1, [.int 0, .int 0, .int 0, .int (-1)])))
    (s3 : (F 3).2 = .inl (cy 5, 40, .inr (.inr (.inr (.inr (va_up (fun i => if i < j then some (f (94 + i)).1 else none) j (some q))))))) : JC h0 cy F 30 (j + 1) := by
  obtain ⟨h1, h2, h3, h4, h5, h6⟩ := h
  refine ⟨?_, ?_, ?_, ?_, fun i hi => ?_, fun i hi => ?_⟩
  · rw [e 0 (by omega) (by omega), h1, e 1 (by omega) (by omega), e 2 (by omega) (by omega), a3]
  · rw [e 1 (by omega) (by omega), h2]
    congr 7
    funext i
    by_cases hi2 : i < 30 ∧ i < 24
    · rw [if_pos hi2, if_pos hi2, e _ (by omega) (by omega)]
    · rw [if_neg hi2, if_neg hi2]
  · rw [e 2 (by omega) (by omega), h3]
    congr 7
    funext i
    by_cases hi2 : 24 + i < 30
    · rw [if_pos hi2, if_pos hi2, e _ (by omega) (by omega)]
    · rw [if_neg hi2, if_neg hi2]
  · rw [s3]
    congr 7
    funext i
    by_cases hi : i = j
    · subst hi
      rw [va_up_self, if_pos (by omega), c1]
    · rw [va_up_ne _ _ hi]
      by_cases hi2 : i < j
      · rw [if_pos hi2, if_pos (by omega), e _ (by omega) (by omega)]
      · rw [if_neg hi2, if_neg (by omega)]
  · rw [e _ (by omega) (by omega), e _ (by omega) (by omega), e _ (by omega) (by omega)]
    exact h5 i hi
  · by_cases hi2 : i = j
    · subst hi2
      rw [c1]
    · rw [e _ (by omega) (by omega)]
      exact h6 i (by omega)
abbrev rmX2_init : Room := { frames := 2, cells := 133, slots := 2750, locals := 40 }
section MI
variable {p : Program} {l : Launch} {e : Env} {s : State} {m : MethodId} {args : Array Value} {below : List Frame} {meth : Method} {c : Code} {Q : State → Prop} {A : Nat → Prop} {cy dC : Nat → ClassId} {dI : Nat → Nat → Nat} {h0 : Nat}
set_option maxHeartbeats 4000000 in
set_option maxRecDepth 100000 in
theorem mi_l1 (hx : p.tables.exec = Jvm.exec) (hb : c.code = cX2_init) (hml : c.maxLocals = 2) (hown : s.vm.findClass RX2 = some m.cls) (hts : ∀ w ∈ lw_all, w.before args s = true) (hK : va_K (dC, dI) mcl (tys cy) s) (hN : NI s) (hA : ∀ q, s.heap.size ≤ q → A q)
    (done : ∀ (f : Nat → Nat × va_E) (H : Heap) (locs : List Loc) (ls : Array Slot), JC h0 cy f (24) 0 → va_P (dC, dI) mcl (fl (4 + 3 * (24)) f) H → va_D A (fl (4 + 3 * (24)) f) → va_S A s.heap H locs → lv_has ls 2 [(0, .ref h0)] → W p l e rmX2_init s m args below meth c H locs (3 + 3 * (24)) (70 + 84 * (24)) Q (F0 m 68 ls [])) :
    ∀ (n k : Nat), k + n = 24 → ∀ (f : Nat → Nat × va_E) (H : Heap) (locs : List Loc) (ls : Array Slot), JC h0 cy f (k) 0 → va_P (dC, dI) mcl (fl (4 + 3 * (k)) f) H → va_D A (fl (4 + 3 * (k)) f) → va_S A s.heap H locs → lv_has ls 2 [(1, .int (nI k)), (0, .ref h0)] → W p l e rmX2_init s m args below meth c H locs (3 + 3 * (k)) (70 + 84 * (k)) Q (F0 m 43 ls []) := by
  intro n
  induction n with
  | zero =>
    intro k hk f H locs ls hJ hP hD hS hl
    have hk : k = 24 := by omega
    subst hk
    refine lv_iload_n hx hb dX2_init_43 rfl (lv_at hl 0 rfl) ?_
    refine lv_bipush (v := 24) hx hb dX2_init_44 (by decide) ?_
    refine lv_icmp_ge (tgt := 68) hx hb dX2_init_46 (by decide) (fun _ => ?_) (fun c1 => absurd (by decide) c1)
    exact done f H locs ls hJ hP hD hS (lv_sub hl [1] rfl)
  | succ n ih =>
    intro k hk f H locs ls hJ hP hD hS hl
    have hlt : k < 24 := by omega
    refine lv_iload_n hx hb dX2_init_43 rfl (lv_at hl 0 rfl) ?_
    refine lv_bipush (v := 24) hx hb dX2_init_44 (by decide) ?_
    refine lv_icmp_ge (tgt := 68) hx hb dX2_init_46 (by decide) (fun c1 => ?_) (fun _ => ?_)
    · have c2 : nI 24 ≤ nI k := c1
      have := (nI_leI (by omega) (by omega)).mp c2
      omega
    refine lv_aload_n hx hb dX2_init_49 rfl (lv_at hl 1 rfl) ?_
    have hf0 : (fl (4 + 3 * (k)) f)[0]? = some (h0, .inr (2, [.ref (f 1).1, .ref (f 2).1, .ref (f 3).1, .int 0, .int 0])) := (fl_at (by omega)).trans (congrArg some hJ.1)
    refine va_get (D := (dC, dI)) (ci := 2) (v := .ref (f 1).1) (C := RX2) (T := TX2) (N := 5) hx hb hts in_X2 hown hK hP 0 hf0 rfl 0 (by decide) (hts _ q69) (fun _ h9 => h9) rfl dX2_init_50 ?_
    refine lv_iload_n hx hb dX2_init_53 rfl (lv_at hl 0 rfl) ?_
    refine va_new (ci := 0) (fs := [.int 0, .int 0, .null, .null]) (C := RX0) (T := TX0) (N := 4) hx hb hts in_X0 tyX0 tyX0_ok hown (hts _ q22) (hts _ q26) (hts _ q2) hK hP hD hS hA rfl (fun j hj => by rcases (show j = 0 ∨ j = 1 ∨ j = 2 ∨ j = 3 by omega) with rfl | rfl | rfl | rfl <;> rfl) (by show _ ≤ 133; omega) (by show _ ≤ 2750; omega) dX2_init_54 (fun q H hP hD hS => ?_)
    refine lv_dup hx hb dX2_init_57 rfl ?_
    have hPc := last_P hP
    have hDc := last_D (A' := fun _ => True) hD trivial
    have hFc := last_F hD hS hA
    refine va_callv (va_runIN (As := []) (rest := [.ref q, .int (nI k), .ref (f 1).1]) ⟨hx, hb, hml, hown, hts⟩ (ctX0_init l cy dC dI q H.size) ⟨va_cnB 0 hts (lw_sub q29) rfl rfl rfl hN.2.2.1 (hts _ q2) (by decide +kernel) ⟨Nat.le_of_ble_eq_true rfl, Nat.le_of_ble_eq_true rfl⟩, rfl, hts _ q28⟩ ⟨fun a U g mk q => by obtain ⟨q0, q1, qP, qK, qD⟩ := q; exact ⟨q0, q1, qP, va_K.moved (u := U) (U := U.calling g mk a) (Vm.Alike.refl U.vm) qK, qD⟩, fun U hU hW => ⟨rfl, by rw [hU], by rw [hU]; exact hPc, va_K.moved hW.alike hK, hDc⟩⟩ rfl rfl hl.1 rfl (lv_room (Nat.le_of_ble_eq_true rfl)) dX2_init_58 ⟨by show _ ≤ 133; omega, by show _ ≤ 2750; omega⟩) hS (fun q _ h => hFc q h) hFc (fun u t H1 locs ht hvm hw hB hz1 hk1 hS => ?_)
    obtain ⟨hP1, hD1⟩ := hB
    rw [ht] at hP1
    obtain ⟨hP, hD⟩ := join_last hP hD hk1 hFc hP1 hD1
    rw [fl_app3] at hP hD
    generalize hF : va_up (va_up (va_up f (4 + 3 * (k)) (q, .inr (0, [.int (-1), .int (-1), .ref u.1, .ref u.2]))) (4 + 3 * (k) + 1) (u.1, .inl (cy 2, 40, .inr (.inl (fun _ => 0))))) (4 + 3 * (k) + 2) (u.2, .inl (cy 3, 40, .inr (.inr (.inr (.inl (fun _ => 0)))))) = F at hP hD
    have c1 : F (4 + 3 * (k)) = (q, .inr (0, [.int (-1), .int (-1), .ref u.1, .ref u.2])) := by
      rw [← hF, va_up_ne _ _ (by omega), va_up_ne _ _ (by omega), va_up_self]
    have c2 : F (4 + 3 * (k) + 1) = (u.1, .inl (cy 2, 40, .inr (.inl (fun _ => 0)))) := by
      rw [← hF, va_up_ne _ _ (by omega), va_up_self]
    have c3 : F (4 + 3 * (k) + 2) = (u.2, .inl (cy 3, 40, .inr (.inr (.inr (.inl (fun _ => 0)))))) := by
      rw [← hF, va_up_self]
    have e1 : ∀ n, n < 4 + 3 * (k) → F n = f n := by
      intro n hn
      rw [← hF, va_up_ne _ _ (by omega), va_up_ne _ _ (by omega), va_up_ne _ _ (by omega)]
    have hf1 : (fl (4 + 3 * (k) + 3) F)[1]? = some ((f 1).1, .inl (cy 4, 24, .inr (.inr (.inr (.inr (fun i => if i < (k) ∧ i < 24 then some (f (4 + 3 * i)).1 else none)))))) := by
      rw [fl_at (by omega), e1 1 (by omega), ← hJ.2.1]
    have hfq : (fl (4 + 3 * (k) + 3) F)[4 + 3 * (k)]? = some (q, .inr (0, [.int (-1), .int (-1), .ref u.1, .ref u.2])) := by
      rw [fl_at (by omega), c1]
    refine va_astq hx hb hK hP hD hS 1 4 (4 + 3 * (k)) 0 hf1 rfl hfq rfl (i := nI k) (vp_in_nI hlt (by omega)) dX2_init_61 (fun H1 locs1 hP hD hS => ?_)
    rw [nI_clamp (by omega), fl_set _ _ (by omega)] at hP hD
    refine lv_iinc (v := nI (k + 1)) (lv' := [(1, .int (nI (k + 1))), (0, .ref h0)]) hx hb dX2_init_62 hl (k := 0) rfl (nI_1 k) (by decide) rfl (fun ls hl => ?_)
    refine lv_goto (tgt := 43) hx hb dX2_init_65 (by decide) ?_
    refine W.widen (k := 3 + 3 * ((k + 1))) (n := 70 + 84 * ((k + 1))) (by omega) (by omega) ?_
    refine ih (k + 1) (by omega) _ H1 locs1 ls ?_ hP hD hS hl
    refine JC_col (k := k) hJ (by omega) (q := q) (w := u.1) (d := u.2) (fun n hn h1 h2 => ?_) ?_ ?_ ?_ ?_ ?_ ?_ ?_
    · rw [va_up_ne _ _ (by omega)]; exact e1 n hn
    · rw [va_up_self]
    · rw [va_up_ne _ _ (by omega), e1 _ (by omega)]
    · rw [va_up_ne _ _ (by omega)]; exact c1
    · rw [va_up_ne _ _ (by omega)]; exact c2
    · rw [va_up_ne _ _ (by omega)]; exact c3
    · rw [va_up_self, if_pos (by omega)]
    · rw [va_up_ne _ _ (by omega), e1 _ (by omega), if_pos (by omega)]
set_option maxHeartbeats 4000000 in
set_option maxRecDepth 100000 in
theorem mi_l2 (hx : p.tables.exec = Jvm.exec) (hb : c.code = cX2_init) (hml : c.maxLocals = 2) (hown : s.vm.findClass RX2 = some m.cls) (hts : ∀ w ∈ lw_all, w.before args s = true) (hK : va_K (dC, dI) mcl (tys cy) s) (hN : NI s) (hA : ∀ q, s.heap.size ≤ q → A q)
    (done : ∀ (f : Nat → Nat × va_E) (H : Heap) (locs : List Loc) (ls : Array Slot), JC h0 cy f (24 + 6) 0 → va_P (dC, dI) mcl (fl (4 + 3 * (24 + 6)) f) H → va_D A (fl (4 + 3 * (24 + 6)) f) → va_S A s.heap H locs → lv_has ls 2 [(0, .ref h0)] → W p l e rmX2_init s m args below meth c H locs (3 + 3 * (24 + 6)) (70 + 84 * (24 + 6)) Q (F0 m 95 ls [])) :
    ∀ (n k : Nat), k + n = 6 → ∀ (f : Nat → Nat × va_E) (H : Heap) (locs : List Loc) (ls : Array Slot), JC h0 cy f (24 + k) 0 → va_P (dC, dI) mcl (fl (4 + 3 * (24 + k)) f) H → va_D A (fl (4 + 3 * (24 + k)) f) → va_S A s.heap H locs → lv_has ls 2 [(1, .int (nI k)), (0, .ref h0)] → W p l e rmX2_init s m args below meth c H locs (3 + 3 * (24 + k)) (70 + 84 * (24 + k)) Q (F0 m 70 ls []) := by
  intro n
  induction n with
  | zero =>
    intro k hk f H locs ls hJ hP hD hS hl
    have hk : k = 6 := by omega
    subst hk
    refine lv_iload_n hx hb dX2_init_70 rfl (lv_at hl 0 rfl) ?_
    refine lv_bipush (v := 6) hx hb dX2_init_71 (by decide) ?_
    refine lv_icmp_ge (tgt := 95) hx hb dX2_init_73 (by decide) (fun _ => ?_) (fun c1 => absurd (by decide) c1)
    exact done f H locs ls hJ hP hD hS (lv_sub hl [1] rfl)
  | succ n ih =>
    intro k hk f H locs ls hJ hP hD hS hl
    have hlt : k < 6 := by omega
    refine lv_iload_n hx hb dX2_init_70 rfl (lv_at hl 0 rfl) ?_
    refine lv_bipush (v := 6) hx hb dX2_init_71 (by decide) ?_
    refine lv_icmp_ge (tgt := 95) hx hb dX2_init_73 (by decide) (fun c1 => ?_) (fun _ => ?_)
    · have c2 : nI 6 ≤ nI k := c1
      have := (nI_leI (by omega) (by omega)).mp c2
      omega
    refine lv_aload_n hx hb dX2_init_76 rfl (lv_at hl 1 rfl) ?_
    have hf0 : (fl (4 + 3 * (24 + k)) f)[0]? = some (h0, .inr (2, [.ref (f 1).1, .ref (f 2).1, .ref (f 3).1, .int 0, .int 0])) := (fl_at (by omega)).trans (congrArg some hJ.1)
    refine va_get (D := (dC, dI)) (ci := 2) (v := .ref (f 2).1) (C := RX2) (T := TX2) (N := 5) hx hb hts in_X2 hown hK hP 0 hf0 rfl 1 (by decide) (hts _ q70) (fun _ h9 => h9) rfl dX2_init_77 ?_
    refine lv_iload_n hx hb dX2_init_80 rfl (lv_at hl 0 rfl) ?_
    refine va_new (ci := 0) (fs := [.int 0, .int 0, .null, .null]) (C := RX0) (T := TX0) (N := 4) hx hb hts in_X0 tyX0 tyX0_ok hown (hts _ q22) (hts _ q26) (hts _ q2) hK hP hD hS hA rfl (fun j hj => by rcases (show j = 0 ∨ j = 1 ∨ j = 2 ∨ j = 3 by omega) with rfl | rfl | rfl | rfl <;> rfl) (by show _ ≤ 133; omega) (by show _ ≤ 2750; omega) dX2_init_81 (fun q H hP hD hS => ?_)
    refine lv_dup hx hb dX2_init_84 rfl ?_
    have hPc := last_P hP
    have hDc := last_D (A' := fun _ => True) hD trivial
    have hFc := last_F hD hS hA
    refine va_callv (va_runIN (As := []) (rest := [.ref q, .int (nI k), .ref (f 2).1]) ⟨hx, hb, hml, hown, hts⟩ (ctX0_init l cy dC dI q H.size) ⟨va_cnB 0 hts (lw_sub q29) rfl rfl rfl hN.2.2.1 (hts _ q2) (by decide +kernel) ⟨Nat.le_of_ble_eq_true rfl, Nat.le_of_ble_eq_true rfl⟩, rfl, hts _ q28⟩ ⟨fun a U g mk q => by obtain ⟨q0, q1, qP, qK, qD⟩ := q; exact ⟨q0, q1, qP, va_K.moved (u := U) (U := U.calling g mk a) (Vm.Alike.refl U.vm) qK, qD⟩, fun U hU hW => ⟨rfl, by rw [hU], by rw [hU]; exact hPc, va_K.moved hW.alike hK, hDc⟩⟩ rfl rfl hl.1 rfl (lv_room (Nat.le_of_ble_eq_true rfl)) dX2_init_85 ⟨by show _ ≤ 133; omega, by show _ ≤ 2750; omega⟩) hS (fun q _ h => hFc q h) hFc (fun u t H1 locs ht hvm hw hB hz1 hk1 hS => ?_)
    obtain ⟨hP1, hD1⟩ := hB
    rw [ht] at hP1
    obtain ⟨hP, hD⟩ := join_last hP hD hk1 hFc hP1 hD1
    rw [fl_app3] at hP hD
    generalize hF : va_up (va_up (va_up f (4 + 3 * (24 + k)) (q, .inr (0, [.int (-1), .int (-1), .ref u.1, .ref u.2]))) (4 + 3 * (24 + k) + 1) (u.1, .inl (cy 2, 40, .inr (.inl (fun _ => 0))))) (4 + 3 * (24 + k) + 2) (u.2, .inl (cy 3, 40, .inr (.inr (.inr (.inl (fun _ => 0)))))) = F at hP hD
    have c1 : F (4 + 3 * (24 + k)) = (q, .inr (0, [.int (-1), .int (-1), .ref u.1, .ref u.2])) := by
      rw [← hF, va_up_ne _ _ (by omega), va_up_ne _ _ (by omega), va_up_self]
    have c2 : F (4 + 3 * (24 + k) + 1) = (u.1, .inl (cy 2, 40, .inr (.inl (fun _ => 0)))) := by
      rw [← hF, va_up_ne _ _ (by omega), va_up_self]
    have c3 : F (4 + 3 * (24 + k) + 2) = (u.2, .inl (cy 3, 40, .inr (.inr (.inr (.inl (fun _ => 0)))))) := by
      rw [← hF, va_up_self]
    have e1 : ∀ n, n < 4 + 3 * (24 + k) → F n = f n := by
      intro n hn
      rw [← hF, va_up_ne _ _ (by omega), va_up_ne _ _ (by omega), va_up_ne _ _ (by omega)]
    have hf1 : (fl (4 + 3 * (24 + k) + 3) F)[2]? = some ((f 2).1, .inl (cy 4, 6, .inr (.inr (.inr (.inr (fun i => if 24 + i < (24 + k) then some (f (4 + 3 * (24 + i))).1 else none)))))) := by
      rw [fl_at (by omega), e1 2 (by omega), ← hJ.2.2.1]
    have hfq : (fl (4 + 3 * (24 + k) + 3) F)[4 + 3 * (24 + k)]? = some (q, .inr (0, [.int (-1), .int (-1), .ref u.1, .ref u.2])) := by
      rw [fl_at (by omega), c1]
    refine va_astq hx hb hK hP hD hS 2 4 (4 + 3 * (24 + k)) 0 hf1 rfl hfq rfl (i := nI k) (vp_in_nI hlt (by omega)) dX2_init_88 (fun H1 locs1 hP hD hS => ?_)
    rw [nI_clamp (by omega), fl_set _ _ (by omega)] at hP hD
    refine lv_iinc (v := nI (k + 1)) (lv' := [(1, .int (nI (k + 1))), (0, .ref h0)]) hx hb dX2_init_89 hl (k := 0) rfl (nI_1 k) (by decide) rfl (fun ls hl => ?_)
    refine lv_goto (tgt := 70) hx hb dX2_init_92 (by decide) ?_
    refine W.widen (k := 3 + 3 * (24 + (k + 1))) (n := 70 + 84 * (24 + (k + 1))) (by omega) (by omega) ?_
    refine ih (k + 1) (by omega) _ H1 locs1 ls ?_ hP hD hS hl
    refine JC_col (k := 24 + k) hJ (by omega) (q := q) (w := u.1) (d := u.2) (fun n hn h1 h2 => ?_) ?_ ?_ ?_ ?_ ?_ ?_ ?_
    · rw [va_up_ne _ _ (by omega)]; exact e1 n hn
    · rw [va_up_ne _ _ (by omega), e1 _ (by omega)]
    · rw [va_up_self]
    · rw [va_up_ne _ _ (by omega)]; exact c1
    · rw [va_up_ne _ _ (by omega)]; exact c2
    · rw [va_up_ne _ _ (by omega)]; exact c3
    · rw [va_up_ne _ _ (by omega), e1 _ (by omega), if_neg (by omega)]
    · rw [va_up_self, if_neg (by omega), show 24 + k - 24 = k by omega]
set_option maxHeartbeats 4000000 in
set_option maxRecDepth 100000 in
theorem mi_l3 (hx : p.tables.exec = Jvm.exec) (hb : c.code = cX2_init) (hml : c.maxLocals = 2) (hown : s.vm.findClass RX2 = some m.cls) (hts : ∀ w ∈ lw_all, w.before args s = true) (hK : va_K (dC, dI) mcl (tys cy) s) (hN : NI s) (hA : ∀ q, s.heap.size ≤ q → A q)
    (done : ∀ (f : Nat → Nat × va_E) (H : Heap) (locs : List Loc) (ls : Array Slot), JC h0 cy f 30 40 → va_P (dC, dI) mcl (fl (94 + 40) f) H → va_D A (fl (94 + 40) f) → va_S A s.heap H locs → lv_has ls 2 [(0, .ref h0)] → W p l e rmX2_init s m args below meth c H locs (93 + 40) (2590 + 4 * 40) Q (F0 m 122 ls [])) :
    ∀ (n k : Nat), k + n = 40 → ∀ (f : Nat → Nat × va_E) (H : Heap) (locs : List Loc) (ls : Array Slot), JC h0 cy f 30 k → va_P (dC, dI) mcl (fl (94 + k) f) H → va_D A (fl (94 + k) f) → va_S A s.heap H locs → lv_has ls 2 [(1, .int (nI k)), (0, .ref h0)] → W p l e rmX2_init s m args below meth c H locs (93 + k) (2590 + 4 * k) Q (F0 m 97 ls []) := by
  intro n
  induction n with
  | zero =>
    intro k hk f H locs ls hJ hP hD hS hl
    have hk : k = 40 := by omega
    subst hk
    refine lv_iload_n hx hb dX2_init_97 rfl (lv_at hl 0 rfl) ?_
    refine lv_bipush (v := 40) hx hb dX2_init_98 (by decide) ?_
    refine lv_icmp_ge (tgt := 122) hx hb dX2_init_100 (by decide) (fun _ => ?_) (fun c1 => absurd (by decide) c1)
    exact done f H locs ls hJ hP hD hS (lv_sub hl [1] rfl)
  | succ n ih =>
    intro k hk f H locs ls hJ hP hD hS hl
    have hlt : k < 40 := by omega
    refine lv_iload_n hx hb dX2_init_97 rfl (lv_at hl 0 rfl) ?_
    refine lv_bipush (v := 40) hx hb dX2_init_98 (by decide) ?_
    refine lv_icmp_ge (tgt := 122) hx hb dX2_init_100 (by decide) (fun c1 => ?_) (fun _ => ?_)
    · have c2 : nI 40 ≤ nI k := c1
      have := (nI_leI (by omega) (by omega)).mp c2
      omega
    refine lv_aload_n hx hb dX2_init_103 rfl (lv_at hl 1 rfl) ?_
    have hf0 : (fl (94 + k) f)[0]? = some (h0, .inr (2, [.ref (f 1).1, .ref (f 2).1, .ref (f 3).1, .int 0, .int 0])) := (fl_at (by omega)).trans (congrArg some hJ.1)
    refine va_get (D := (dC, dI)) (ci := 2) (v := .ref (f 3).1) (C := RX2) (T := TX2) (N := 5) hx hb hts in_X2 hown hK hP 0 hf0 rfl 2 (by decide) (hts _ q71) (fun _ h9 => h9) rfl dX2_init_104 ?_
    refine lv_iload_n hx hb dX2_init_107 rfl (lv_at hl 0 rfl) ?_
    refine va_new (ci := 1) (fs := [.int 0, .int 0, .int 0, .int 0]) (C := RX1) (T := TX1) (N := 4) hx hb hts in_X1 tyX1 tyX1_ok hown (hts _ q24) (hts _ q48) (hts _ q3) hK hP hD hS hA rfl (fun j hj => by rcases (show j = 0 ∨ j = 1 ∨ j = 2 ∨ j = 3 by omega) with rfl | rfl | rfl | rfl <;> rfl) (by show _ ≤ 133; omega) (by show _ ≤ 2750; omega) dX2_init_108 (fun q H hP hD hS => ?_)
    refine lv_dup hx hb dX2_init_111 rfl ?_
    have hPc := last_P hP
    have hDc := last_D (A' := fun _ => True) hD trivial
    have hFc := last_F hD hS hA
    refine va_callv (va_runIN (As := []) (rest := [.ref q, .int (nI k), .ref (f 3).1]) ⟨hx, hb, hml, hown, hts⟩ (ctX1_init l cy dC dI q H.size) ⟨va_cnB 0 hts (lw_sub q51) rfl rfl rfl hN.2.2.2 (hts _ q3) (by decide +kernel) ⟨Nat.le_of_ble_eq_true rfl, Nat.le_of_ble_eq_true rfl⟩, rfl, hts _ q50⟩ ⟨fun a U g mk q => by obtain ⟨q0, q1, qP, qK, qD⟩ := q; exact ⟨q0, q1, qP, va_K.moved (u := U) (U := U.calling g mk a) (Vm.Alike.refl U.vm) qK, qD⟩, fun U hU hW => ⟨rfl, by rw [hU], by rw [hU]; exact hPc, va_K.moved hW.alike hK, hDc⟩⟩ rfl rfl hl.1 rfl (lv_room (Nat.le_of_ble_eq_true rfl)) dX2_init_112 ⟨by show _ ≤ 133; omega, by show _ ≤ 2750; omega⟩) hS (fun q _ h => hFc q h) hFc (fun u t H1 locs ht hvm hw hB hz1 hk1 hS => ?_)
    obtain ⟨hP1, hD1⟩ := hB
    rw [ht] at hP1
    obtain ⟨hP, hD⟩ := join_last hP hD hk1 hFc hP1 hD1
    rw [fl_push] at hP hD
    generalize hF : va_up f (94 + k) (q, .inr (1, [.int 0, .int 0, .int 0, .int (-1)])) = F at hP hD
    have c1 : F (94 + k) = (q, .inr (1, [.int 0, .int 0, .int 0, .int (-1)])) := by
      rw [← hF, va_up_self]
    have e1 : ∀ n, n < 94 + k → F n = f n := by
      intro n hn
      rw [← hF, va_up_ne _ _ (by omega)]
    have hf1 : (fl (94 + k + 1) F)[3]? = some ((f 3).1, .inl (cy 5, 40, .inr (.inr (.inr (.inr (fun i => if i < k then some (f (94 + i)).1 else none)))))) := by
      rw [fl_at (by omega), e1 3 (by omega), ← hJ.2.2.2.1]
    have hfq : (fl (94 + k + 1) F)[94 + k]? = some (q, .inr (1, [.int 0, .int 0, .int 0, .int (-1)])) := by
      rw [fl_at (by omega), c1]
    refine va_astq hx hb hK hP hD hS 3 5 (94 + k) 1 hf1 rfl hfq rfl (i := nI k) (vp_in_nI hlt (by omega)) dX2_init_115 (fun H1 locs1 hP hD hS => ?_)
    rw [nI_clamp (by omega), fl_set _ _ (by omega)] at hP hD
    refine lv_iinc (v := nI (k + 1)) (lv' := [(1, .int (nI (k + 1))), (0, .ref h0)]) hx hb dX2_init_116 hl (k := 0) rfl (nI_1 k) (by decide) rfl (fun ls hl => ?_)
    refine lv_goto (tgt := 97) hx hb dX2_init_119 (by decide) ?_
    refine W.widen (k := 93 + (k + 1)) (n := 2590 + 4 * (k + 1)) (by omega) (by omega) ?_
    refine ih (k + 1) (by omega) _ H1 locs1 ls ?_ hP hD hS hl
    refine JC_part hJ (by omega) (q := q) (fun n hn h1 => ?_) ?_ ?_ ?_
    · rw [va_up_ne _ _ (by omega)]; exact e1 n hn
    · rw [va_up_self]
    · rw [va_up_ne _ _ (by omega)]; exact c1
    · rw [va_up_self]
end MI
set_option maxHeartbeats 4000000 in
set_option maxRecDepth 100000 in
theorem ctX2_init (l : Launch) (cy dC : Nat → ClassId) (dI : Nat → Nat → Nat) (h0 sz : Nat) : Met l yX2_init (ws_ yX2_init cX2_init 2 none) rmX2_init (va_Pc [.ref h0] (fun U => U.heap.size = sz ∧ va_P (dC, dI) mcl [(h0, .inr (2, [.null, .null, .null, .int 0, .int 0]))] U.heap ∧ va_K (dC, dI) mcl (tys cy) U ∧ va_D (fun _ => True) [(h0, .inr (2, [.null, .null, .null, .int 0, .int 0]))] ∧ NI U)) (va_Qv (fun _ : Nat → Nat × va_E => True) (fun (u : Nat → Nat × va_E) t => JC h0 cy u 30 40 ∧ va_P (dC, dI) mcl (fl 134 u) t.heap ∧ va_D (va_A [(h0, .inr (2, [.null, .null, .null, .int 0, .int 0]))] sz) (fl 134 u)) (va_A [(h0, .inr (2, [.null, .null, .null, .int 0, .int 0]))] sz)) 133 2750 (va_A [(h0, .inr (2, [.null, .null, .null, .int 0, .int 0]))] sz) := by
  refine Met.ofW (cc := cX2_init) (maxL := 2) (ret := none) (by decide) rfl ?_
  intro p e s m args below meth c s₁ B hml hv
  obtain ⟨rfl, hsz, hP, hK, hD0, hN⟩ := hv
  have hx := B.exec
  have hb := B.bytes
  have hr := B.returns
  have hts0 := atoms_spec (ws := ws_ yX2_init cX2_init 2 none) B.pre
  have hts : ∀ w ∈ lw_all, w.before _ s = true := fun w hw => hts0 w (List.mem_cons_of_mem _ hw)
  have hown : s.vm.findClass RX2 = some m.cls := findClass_of_methodNamed B.named
  have hlocks := B.notSynchronized
  have hin : meth.name = "<init>" := (name_of_methodNamed B.named B.method).1
  subst hsz
  have hD := hD0.self (sz := s.heap.size)
  generalize hAe : va_A [(h0, .inr (2, [.null, .null, .null, .int 0, .int 0]))] s.heap.size = A at hD ⊢
  have hA : ∀ q : Nat, s.heap.size ≤ q → A q := fun q h => by rw [← hAe]; exact Or.inr h
  have hS : va_S A s.heap s.heap [] := va_S.rf
  have hP : va_P (dC, dI) mcl [(h0, .inr (2, [.null, .null, .null, .int 0, .int 0]))] s.heap := hP
  have hl := lv_entry ([.ref h0]) (n := 2) (Nat.le_of_ble_eq_true rfl)
  rw [lg_entry_eq]
  generalize (lg_sl ([.ref h0]) ++ List.replicate (2 - (lg_sl ([.ref h0])).length) Slot.unset).toArray = ls at hl ⊢
  have hl : lv_has ls 2 [(0, .ref h0)] := hl
  refine lv_aload_n hx hb dX2_init_0 rfl (lv_at hl 0 rfl) ?_
  refine W.objInit hx hb hown (hts _ q19) (hts _ q20) (hts _ q21) rfl (by rw [hml]; exact hl.1) rfl dX2_init_1 (Nat.le_of_ble_eq_true rfl) (Nat.le_of_ble_eq_true rfl) ?_
  refine W.eq (g2 := F0 m 4 ls []) rfl ?_
  refine lv_aload_n hx hb dX2_init_4 rfl (lv_at hl 0 rfl) ?_
  refine lv_bipush (v := 24) hx hb dX2_init_5 (by decide) ?_
  refine va_newq (N' := 24) hx hb hown (hts _ q22) hN.1 hK hP hD hS hA (by decide) (by decide) (by decide) (Nat.le_of_ble_eq_true rfl) (Nat.le_of_ble_eq_true rfl) dX2_init_7 (fun q1 cA1 H hK1 hP hD hS => ?_)
  have e1 : cA1 = cy 4 := cy_eq hK1 (i := 6) (j := 4) rfl rfl
  subst e1
  clear hK1
  have hP : va_P (dC, dI) mcl [(h0, .inr (2, [.null, .null, .null, .int 0, .int 0])), (q1, .inl (cy 4, 24, .inr (.inr (.inr (.inr (fun _ => none))))))] H := hP
  have hD : va_D A [(h0, .inr (2, [.null, .null, .null, .int 0, .int 0])), (q1, .inl (cy 4, 24, .inr (.inr (.inr (.inr (fun _ => none))))))] := hD
  refine va_putF (D := (dC, dI)) (ci := 2) (v := .ref q1) (ty := .array (.object "MappingMoves$Column")) (C := RX2) (T := TX2) (N := 5) hx hb hts in_X2 tyX2 tyX2_ok nmX2 hown hK hP hD hS 0 rfl rfl 0 (by decide) (hts _ q69) (fun _ h9 => h9) rfl hin rfl (by decide +kernel) rfl rfl (Nat.le_of_ble_eq_true rfl) dX2_init_10 (fun H locs hP hD hS => ?_)
  have hP : va_P (dC, dI) mcl [(h0, .inr (2, [.ref q1, .null, .null, .int 0, .int 0])), (q1, .inl (cy 4, 24, .inr (.inr (.inr (.inr (fun _ => none))))))] H := hP
  have hD : va_D A [(h0, .inr (2, [.ref q1, .null, .null, .int 0, .int 0])), (q1, .inl (cy 4, 24, .inr (.inr (.inr (.inr (fun _ => none))))))] := hD
  refine lv_aload_n hx hb dX2_init_13 rfl (lv_at hl 0 rfl) ?_
  refine lv_bipush (v := 6) hx hb dX2_init_14 (by decide) ?_
  refine va_newq (N' := 6) hx hb hown (hts _ q22) hN.1 hK hP hD hS hA (by decide) (by decide) (by decide) (Nat.le_of_ble_eq_true rfl) (Nat.le_of_ble_eq_true rfl) dX2_init_16 (fun q2 cA2 H hK1 hP hD hS => ?_)
  have e2 : cA2 = cy 4 := cy_eq hK1 (i := 6) (j := 4) rfl rfl
  subst e2
  clear hK1
  have hP : va_P (dC, dI) mcl [(h0, .inr (2, [.ref q1, .null, .null, .int 0, .int 0])), (q1, .inl (cy 4, 24, .inr (.inr (.inr (.inr (fun _ => none)))))), (q2, .inl (cy 4, 6, .inr (.inr (.inr (.inr (fun _ => none))))))] H := hP
  have hD : va_D A [(h0, .inr (2, [.ref q1, .null, .null, .int 0, .int 0])), (q1, .inl (cy 4, 24, .inr (.inr (.inr (.inr (fun _ => none)))))), (q2, .inl (cy 4, 6, .inr (.inr (.inr (.inr (fun _ => none))))))] := hD
  refine va_putF (D := (dC, dI)) (ci := 2) (v := .ref q2) (ty := .array (.object "MappingMoves$Column")) (C := RX2) (T := TX2) (N := 5) hx hb hts in_X2 tyX2 tyX2_ok nmX2 hown hK hP hD hS 0 rfl rfl 1 (by decide) (hts _ q70) (fun _ h9 => h9) rfl hin rfl (by decide +kernel) rfl rfl (Nat.le_of_ble_eq_true rfl) dX2_init_19 (fun H locs hP hD hS => ?_)
  have hP : va_P (dC, dI) mcl [(h0, .inr (2, [.ref q1, .ref q2, .null, .int 0, .int 0])), (q1, .inl (cy 4, 24, .inr (.inr (.inr (.inr (fun _ => none)))))), (q2, .inl (cy 4, 6, .inr (.inr (.inr (.inr (fun _ => none))))))] H := hP
  have hD : va_D A [(h0, .inr (2, [.ref q1, .ref q2, .null, .int 0, .int 0])), (q1, .inl (cy 4, 24, .inr (.inr (.inr (.inr (fun _ => none)))))), (q2, .inl (cy 4, 6, .inr (.inr (.inr (.inr (fun _ => none))))))] := hD
  refine lv_aload_n hx hb dX2_init_22 rfl (lv_at hl 0 rfl) ?_
  refine lv_bipush (v := 40) hx hb dX2_init_23 (by decide) ?_
  refine va_newq (N' := 40) hx hb hown (hts _ q24) hN.2.1 hK hP hD hS hA (by decide) (by decide) (by decide) (Nat.le_of_ble_eq_true rfl) (Nat.le_of_ble_eq_true rfl) dX2_init_25 (fun q3 cA3 H hK1 hP hD hS => ?_)
  have e3 : cA3 = cy 5 := cy_eq hK1 (i := 6) (j := 5) rfl rfl
  subst e3
  clear hK1
  have hP : va_P (dC, dI) mcl [(h0, .inr (2, [.ref q1, .ref q2, .null, .int 0, .int 0])), (q1, .inl (cy 4, 24, .inr (.inr (.inr (.inr (fun _ => none)))))), (q2, .inl (cy 4, 6, .inr (.inr (.inr (.inr (fun _ => none)))))), (q3, .inl (cy 5, 40, .inr (.inr (.inr (.inr (fun _ => none))))))] H := hP
  have hD : va_D A [(h0, .inr (2, [.ref q1, .ref q2, .null, .int 0, .int 0])), (q1, .inl (cy 4, 24, .inr (.inr (.inr (.inr (fun _ => none)))))), (q2, .inl (cy 4, 6, .inr (.inr (.inr (.inr (fun _ => none)))))), (q3, .inl (cy 5, 40, .inr (.inr (.inr (.inr (fun _ => none))))))] := hD
  refine va_putF (D := (dC, dI)) (ci := 2) (v := .ref q3) (ty := .array (.object "MappingMoves$Part")) (C := RX2) (T := TX2) (N := 5) hx hb hts in_X2 tyX2 tyX2_ok nmX2 hown hK hP hD hS 0 rfl rfl 2 (by decide) (hts _ q71) (fun _ h9 => h9) rfl hin rfl (by decide +kernel) rfl rfl (Nat.le_of_ble_eq_true rfl) dX2_init_28 (fun H locs hP hD hS => ?_)
  have hP : va_P (dC, dI) mcl [(h0, .inr (2, [.ref q1, .ref q2, .ref q3, .int 0, .int 0])), (q1, .inl (cy 4, 24, .inr (.inr (.inr (.inr (fun _ => none)))))), (q2, .inl (cy 4, 6, .inr (.inr (.inr (.inr (fun _ => none)))))), (q3, .inl (cy 5, 40, .inr (.inr (.inr (.inr (fun _ => none))))))] H := hP
  have hD : va_D A [(h0, .inr (2, [.ref q1, .ref q2, .ref q3, .int 0, .int 0])), (q1, .inl (cy 4, 24, .inr (.inr (.inr (.inr (fun _ => none)))))), (q2, .inl (cy 4, 6, .inr (.inr (.inr (.inr (fun _ => none)))))), (q3, .inl (cy 5, 40, .inr (.inr (.inr (.inr (fun _ => none))))))] := hD
  refine lv_aload_n hx hb dX2_init_31 rfl (lv_at hl 0 rfl) ?_
  refine lv_iconst (v := 0) hx hb dX2_init_32 (by decide) ?_
  refine va_put (D := (dC, dI)) (ci := 2) (v := .int 0) (ty := .int) (C := RX2) (T := TX2) (N := 5) hx hb hts in_X2 tyX2 tyX2_ok nmX2 hown hK hP hD hS 0 rfl rfl 3 (by decide) (hts _ q72) (fun _ h9 => h9) rfl (by decide +kernel) rfl rfl (Nat.le_of_ble_eq_true rfl) dX2_init_33 (fun H locs hP hD hS => ?_)
  have hP : va_P (dC, dI) mcl [(h0, .inr (2, [.ref q1, .ref q2, .ref q3, .int 0, .int 0])), (q1, .inl (cy 4, 24, .inr (.inr (.inr (.inr (fun _ => none)))))), (q2, .inl (cy 4, 6, .inr (.inr (.inr (.inr (fun _ => none)))))), (q3, .inl (cy 5, 40, .inr (.inr (.inr (.inr (fun _ => none))))))] H := hP
  have hD : va_D A [(h0, .inr (2, [.ref q1, .ref q2, .ref q3, .int 0, .int 0])), (q1, .inl (cy 4, 24, .inr (.inr (.inr (.inr (fun _ => none)))))), (q2, .inl (cy 4, 6, .inr (.inr (.inr (.inr (fun _ => none)))))), (q3, .inl (cy 5, 40, .inr (.inr (.inr (.inr (fun _ => none))))))] := hD
  refine lv_aload_n hx hb dX2_init_36 rfl (lv_at hl 0 rfl) ?_
  refine lv_iconst (v := 0) hx hb dX2_init_37 (by decide) ?_
  refine va_put (D := (dC, dI)) (ci := 2) (v := .int 0) (ty := .int) (C := RX2) (T := TX2) (N := 5) hx hb hts in_X2 tyX2 tyX2_ok nmX2 hown hK hP hD hS 0 rfl rfl 4 (by decide) (hts _ q73) (fun _ h9 => h9) rfl (by decide +kernel) rfl rfl (Nat.le_of_ble_eq_true rfl) dX2_init_38 (fun H locs hP hD hS => ?_)
  have hP : va_P (dC, dI) mcl [(h0, .inr (2, [.ref q1, .ref q2, .ref q3, .int 0, .int 0])), (q1, .inl (cy 4, 24, .inr (.inr (.inr (.inr (fun _ => none)))))), (q2, .inl (cy 4, 6, .inr (.inr (.inr (.inr (fun _ => none)))))), (q3, .inl (cy 5, 40, .inr (.inr (.inr (.inr (fun _ => none))))))] H := hP
  have hD : va_D A [(h0, .inr (2, [.ref q1, .ref q2, .ref q3, .int 0, .int 0])), (q1, .inl (cy 4, 24, .inr (.inr (.inr (.inr (fun _ => none)))))), (q2, .inl (cy 4, 6, .inr (.inr (.inr (.inr (fun _ => none)))))), (q3, .inl (cy 5, 40, .inr (.inr (.inr (.inr (fun _ => none))))))] := hD
  refine lv_iconst (v := 0) hx hb dX2_init_41 (by decide) ?_
  refine lv_istore_n (lv' := [(1, .int 0), (0, .ref h0)]) hx hb dX2_init_42 rfl hl (by decide) rfl (fun ls hl => ?_)
  have hP : va_P (dC, dI) mcl (fl (4 + 3 * 0) (fun n => match n with | 0 => (h0, .inr (2, [.ref q1, .ref q2, .ref q3, .int 0, .int 0])) | 1 => (q1, .inl (cy 4, 24, .inr (.inr (.inr (.inr (fun _ => none)))))) | 2 => (q2, .inl (cy 4, 6, .inr (.inr (.inr (.inr (fun _ => none)))))) | _ => (q3, .inl (cy 5, 40, .inr (.inr (.inr (.inr (fun _ => none)))))))) H := hP
  have hD : va_D A (fl (4 + 3 * 0) (fun n => match n with | 0 => (h0, .inr (2, [.ref q1, .ref q2, .ref q3, .int 0, .int 0])) | 1 => (q1, .inl (cy 4, 24, .inr (.inr (.inr (.inr (fun _ => none)))))) | 2 => (q2, .inl (cy 4, 6, .inr (.inr (.inr (.inr (fun _ => none)))))) | _ => (q3, .inl (cy 5, 40, .inr (.inr (.inr (.inr (fun _ => none)))))))) := hD
  refine W.widen (k := 3 + 3 * 0) (n := 70 + 84 * 0) (by decide) (by decide) ?_
  refine mi_l1 (h0 := h0) (cy := cy) (A := A) hx hb hml hown hts hK hN hA (fun f H locs ls hJ hP hD hS hl => ?_) 24 0 rfl _ H _ ls ⟨rfl, ?_, ?_, ?_, fun i hi => absurd hi (Nat.not_lt_zero i), fun i hi => absurd hi (Nat.not_lt_zero i)⟩ hP hD hS hl
  · refine lv_iconst (v := 0) hx hb dX2_init_68 (by decide) ?_
    refine lv_istore_n (lv' := [(1, .int 0), (0, .ref h0)]) hx hb dX2_init_69 rfl hl (by decide) rfl (fun ls hl => ?_)
    refine W.widen (k := 3 + 3 * (24 + 0)) (n := 70 + 84 * (24 + 0)) (by decide) (by decide) ?_
    refine mi_l2 (h0 := h0) (cy := cy) (A := A) hx hb hml hown hts hK hN hA (fun f H locs ls hJ hP hD hS hl => ?_) 6 0 rfl f H locs ls hJ hP hD hS hl
    refine lv_iconst (v := 0) hx hb dX2_init_95 (by decide) ?_
    refine lv_istore_n (lv' := [(1, .int 0), (0, .ref h0)]) hx hb dX2_init_96 rfl hl (by decide) rfl (fun ls hl => ?_)
    refine W.widen (k := 93 + 0) (n := 2590 + 4 * 0) (by decide) (by decide) ?_
    refine mi_l3 (h0 := h0) (cy := cy) (A := A) hx hb hml hown hts hK hN hA (fun f H locs ls hJ hP hD hS hl => ?_) 40 0 rfl f H locs ls hJ hP hD hS hl
    refine W.widen (k := 133) (n := 2750) (by decide) (by decide) ?_
    exact W.vret hx hb hr (fun t ht hW => ⟨⟨f, rfl, trivial, hJ, by rw [ht]; exact hP, hD⟩, hS.F ht⟩) hS.2.2 dX2_init_122
  · show Sum.inl _ = Sum.inl _
    congr 7
  · show Sum.inl _ = Sum.inl _
    congr 7
  · show Sum.inl _ = Sum.inl _
    congr 7
