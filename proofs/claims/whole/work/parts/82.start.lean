/-! ===== from the law's entry ===== -/
theorem nwL_in : ∀ w ∈ nwL, w ∈ lw_tbl := by decide +kernel
theorem ngL_in : ∀ w ∈ ngL, w ∈ lw_tbl := by decide +kernel
theorem tb42 : Cond.arrayOver (.object "MappingMoves$Column") ∈ lw_tbl := List.mem_of_getElem? (i := 42) (by decide +kernel)
theorem tb44 : Cond.arrayOver (.object "MappingMoves$Part") ∈ lw_tbl := List.mem_of_getElem? (i := 44) (by decide +kernel)
theorem tb46 : Cond.methodLinkNest RX2 31 yX0_init "MappingMoves" ∈ lw_tbl := List.mem_of_getElem? (i := 46) (by decide +kernel)
theorem tb68 : Cond.methodLinkNest RX2 32 yX1_init "MappingMoves" ∈ lw_tbl := List.mem_of_getElem? (i := 68) (by decide +kernel)
theorem tb367 : Cond.laysStatic Bundle.tN "UNASSIGNED_STACK" Bundle.steD ∈ lw_tbl := List.mem_of_getElem? (i := 367) (by decide +kernel)
theorem tb369 : Cond.laysStatic Bundle.tN "SUPPRESSED_SENTINEL" Bundle.listD ∈ lw_tbl := List.mem_of_getElem? (i := 369) (by decide +kernel)
theorem ar_p {s : State} {args : Array Value} {ty : FieldType} (h : (Cond.arrayClass ty).before args s = true) (ho : ∀ C, ty ≠ .object C) : ∃ cA : ClassId, ArrOfT s cA ty ∧ va_RA s cA ty := by
  obtain ⟨cA, kA, comp, h1, h2, h3⟩ := Cond.arrayClass_spec h
  refine ⟨cA, fun n z => ⟨fun k h => (by cases h), kA, h2, comp, h3⟩, ?_⟩
  cases ty with
  | object C => exact absurd rfl (ho C)
  | _ => exact h1
theorem ar_o {s : State} {args : Array Value} {C : String} (h : (Cond.arrayOver (.object C)).before args s = true) : ∃ cA : ClassId, ArrOfT s cA (.object C) ∧ va_RA s cA (.object C) := by
  obtain ⟨comp, cA, kA, h1, -, h2, h3, h4⟩ := Cond.arrayOver_spec h
  exact ⟨cA, fun n z => ⟨fun k h => (by cases h), kA, h2, comp, h3⟩, kA, comp, h2, h3, h1, h4⟩
theorem k_all {s : State} {args : Array Value} (ht : ∀ w ∈ lw_tbl, w.before args s = true) : ∃ (cy dC : Nat → ClassId) (dI : Nat → Nat → Nat), va_K (dC, dI) mcl (tys cy) s := by
  have hts : ∀ w ∈ lw_all, w.before args s = true := fun w hw => ht w (List.mem_filter.mp hw).1
  obtain ⟨c0, iS0, hK0⟩ := u_known (C := RX0) (T := TX0) (N := 4) (n := 4) hts in_X0 (hts _ q26)
  obtain ⟨c1, iS1, hK1⟩ := u_known (C := RX1) (T := TX1) (N := 4) (n := 4) hts in_X1 (hts _ q48)
  obtain ⟨c2, iS2, hK2⟩ := u_known (C := RX2) (T := TX2) (N := 5) (n := 5) hts in_X2 (hts _ q15)
  obtain ⟨c3, iS3, hK3⟩ := u_known (C := RX3) (T := TX3) (N := 17) (n := 17) hts in_X3 (hts _ q462)
  obtain ⟨a0, hA0⟩ := ar_p (hts _ q519) (fun C h => by cases h)
  obtain ⟨a1, hA1⟩ := ar_p (hts _ q520) (fun C h => by cases h)
  obtain ⟨a2, hA2⟩ := ar_p (hts _ q46) (fun C h => by cases h)
  obtain ⟨a3, hA3⟩ := ar_p (hts _ q47) (fun C h => by cases h)
  obtain ⟨a4, hA4⟩ := ar_o (ht _ tb42)
  obtain ⟨a5, hA5⟩ := ar_o (ht _ tb44)
  refine ⟨fun k => if k = 0 then a0 else if k = 1 then a1 else if k = 2 then a2 else if k = 3 then a3 else if k = 4 then a4 else a5, fun k => if k = 0 then c0 else if k = 1 then c1 else if k = 2 then c2 else c3, fun k => if k = 0 then iS0 else if k = 1 then iS1 else if k = 2 then iS2 else iS3, ?_, ?_⟩
  · intro k q hq
    match k, hq with
    | 0, hq => cases hq; exact hK0
    | 1, hq => cases hq; exact hK1
    | 2, hq => cases hq; exact hK2
    | 3, hq => cases hq; exact hK3
    | k + 4, hq => cases hq
  · intro k q hq
    match k, hq with
    | 0, hq => cases hq; exact hA0
    | 1, hq => cases hq; exact hA1
    | 2, hq => cases hq; exact hA2
    | 3, hq => cases hq; exact hA3
    | 4, hq => cases hq; exact hA4
    | 5, hq => cases hq; exact hA5
    | k + 6, hq => cases hq
set_option maxHeartbeats 4000000 in
set_option maxRecDepth 100000 in
/-- from the entry, for every script of at most 3072 ints, the law comes to its end with true -/
theorem whole_start {p : Program} {e : Env} {s : State} {m : MethodId} {below : List Frame} {meth : Method} {c : Code} (l : Launch) (hlt : l.stackTraces = false) {b L : Nat} {xs : Nat → Int32} (hL : L ≤ 3072) (C0 : lw_At p s m meth c b L xs) : W p l e room_1 s m #[Value.ref b] below meth c s.heap [] 0 0 (lw_Z below #[Value.ref b] s) (entryFrame m ([Value.ref b] : List Value).toArray 8) := by
  obtain ⟨hx, hb, hr, hml, hown, ht, hX, hbl, hlocks, hgv⟩ := C0
  have hts : ∀ w ∈ lw_all, w.before #[Value.ref b] s = true := fun w hw => ht w (List.mem_filter.mp hw).1
  obtain ⟨cy, dC, dI, hK⟩ := k_all ht
  have hNW : NW s := fun w hw => va_tabs (nwL_tab w hw) rfl (ht w (nwL_in w hw))
  have hNG : NG s := fun w hw => va_tabs (ngL_tab w hw) rfl (ht w (ngL_in w hw))
  have hNI : NI s := ⟨ht _ tb42, ht _ tb44, va_tabs rfl rfl (ht _ tb46), va_tabs rfl rfl (ht _ tb68)⟩
  have hfl := flat_of_before _ hgv
  have hno : ∀ a : Nat, a < s.heap.size → ¬ (fun q : Nat => s.heap.size ≤ q) a := fun a h1 h2 => by
    have h2 : s.heap.size ≤ a := h2
    omega
  have hU : vx_Zq Bundle.tN "UNASSIGNED_STACK" Bundle.steD (fun q => s.heap.size ≤ q) s s.heap := vx_Zqof (ht _ tb367) (hts _ q6) (hfl _ (by decide +kernel)) hno
  have hSn : vx_Zq Bundle.tN "SUPPRESSED_SENTINEL" Bundle.listD (fun q => s.heap.size ≤ q) s s.heap := vx_Zqof (ht _ tb369) (hts _ q6) (hfl _ (by decide +kernel)) hno
  have hNc : va_Nc nAI Bundle.nN s := va_Nc.of (hfl _ (by decide +kernel))
  have hA : ∀ q : Nat, s.heap.size ≤ q → (fun q : Nat => s.heap.size ≤ q) q := fun _ h => h
  have hB : SB (fun q => s.heap.size ≤ q) s b L xs := ⟨hX, hbl, Nat.not_le.mpr hbl⟩
  have hS : va_S (fun q : Nat => s.heap.size ≤ q) s.heap s.heap [] := va_S.rf
  have hP : va_P (dC, dI) mcl [] s.heap := fun k q h => by simp at h
  have hD : va_D (fun q : Nat => s.heap.size ≤ q) [] := ⟨fun i j p q h => by simp at h, fun k q h => by simp at h⟩
  have hl := lv_entry ([.ref b]) (n := 8) (Nat.le_of_ble_eq_true rfl)
  rw [lg_entry_eq]
  generalize (lg_sl ([.ref b]) ++ List.replicate (8 - (lg_sl ([.ref b])).length) Slot.unset).toArray = ls at hl ⊢
  have hl : lv_has ls 8 [(0, .ref b)] := hl
  refine va_new (ci := 2) (fs := [.null, .null, .null, .int 0, .int 0]) (C := RX2) (T := TX2) (N := 5) hx hb hts in_X2 tyX2 tyX2_ok hown (hts _ q14) (hts _ q15) (hts _ q1) hK hP hD hS hA rfl (fun j hj => by rcases (show j = 0 ∨ j = 1 ∨ j = 2 ∨ j = 3 ∨ j = 4 by omega) with rfl | rfl | rfl | rfl | rfl <;> rfl) (Nat.le_of_ble_eq_true rfl) (Nat.le_of_ble_eq_true rfl) dL_law_0 (fun x H hP hD hS => ?_)
  refine lv_dup hx hb dL_law_3 rfl ?_
  have hPc := last_P hP
  have hDc := last_D (A' := fun _ => True) hD trivial
  have hFc := last_F hD hS hA
  refine va_callv (va_runI (As := []) (rest := [.ref x]) ⟨hx, hb, hml, hown, hts⟩ (ctX2_init l cy dC dI x H.size) (cwI 0 hts (lw_sub q18) rfl rfl rfl (hts _ q1) (hts _ q16) (hts _ q17) rfl (by decide +kernel) ⟨Nat.le_of_ble_eq_true rfl, Nat.le_of_ble_eq_true rfl⟩) ⟨fun a U g mk q => by obtain ⟨q0, q1, qP, qK, qD, qN⟩ := q; exact ⟨q0, q1, qP, va_K.moved (u := U) (U := U.calling g mk a) (Vm.Alike.refl U.vm) qK, qD, NI.same (u := U) (U := U.calling g mk a) rfl qN⟩, fun U hU hW => ⟨rfl, by rw [hU], by rw [hU]; exact hPc, va_K.moved hW.alike hK, hDc, NI.warm hW hNI⟩⟩ rfl rfl hl.1 rfl (lv_room (Nat.le_of_ble_eq_true rfl)) dL_law_4 ⟨Nat.le_of_ble_eq_true rfl, Nat.le_of_ble_eq_true rfl⟩) hS (fun q _ h => hFc q h) hFc (fun f t H1 locs ht hvm _ hB1 hz1 hk1 hS => ?_)
  obtain ⟨hJ, hP1, hD1⟩ := hB1
  rw [ht] at hP1
  obtain ⟨hP, hD⟩ := join_last hP hD hk1 hFc hP1 hD1
  clear hPc hDc hFc hk1 hz1 hP1 hD1 ht hvm
  rw [List.nil_append] at hP hD
  refine lv_astore_n (lv' := [(1, .ref x), (0, .ref b)]) hx hb dL_law_7 rfl hl (by decide) rfl (fun ls hl => ?_)
  refine va_new (ci := 3) (fs := [.int 0, .null, .null, .null, .null, .null, .null, .null, .null, .null, .null, .int 0, .null, .null, .null, .null, .int 0]) (C := RX3) (T := TX3) (N := 17) hx hb hts in_X3 tyX3 tyX3_ok hown (hts _ q461) (hts _ q462) (hts _ q4) hK hP hD hS hA rfl (fun j hj => by rcases (show j = 0 ∨ j = 1 ∨ j = 2 ∨ j = 3 ∨ j = 4 ∨ j = 5 ∨ j = 6 ∨ j = 7 ∨ j = 8 ∨ j = 9 ∨ j = 10 ∨ j = 11 ∨ j = 12 ∨ j = 13 ∨ j = 14 ∨ j = 15 ∨ j = 16 by omega) with rfl | rfl | rfl | rfl | rfl | rfl | rfl | rfl | rfl | rfl | rfl | rfl | rfl | rfl | rfl | rfl | rfl <;> rfl) (Nat.le_of_ble_eq_true rfl) (Nat.le_of_ble_eq_true rfl) dL_law_8 (fun y H hP hD hS => ?_)
  refine lv_dup hx hb dL_law_11 rfl ?_
  have hPc := last_P hP
  have hDc := last_D (A' := fun _ => True) hD trivial
  have hFc := last_F hD hS hA
  refine va_callv (va_runI (As := []) (rest := [.ref y]) ⟨hx, hb, hml, hown, hts⟩ (ctX3_init l cy dC dI y H.size) (cwI 0 hts (lw_sub q465) rfl rfl rfl (hts _ q4) (hts _ q463) (hts _ q464) rfl (by decide +kernel) ⟨Nat.le_of_ble_eq_true rfl, Nat.le_of_ble_eq_true rfl⟩) ⟨fun a U g mk q => by obtain ⟨q0, q1, qP, qK, qD⟩ := q; exact ⟨q0, q1, qP, va_K.moved (u := U) (U := U.calling g mk a) (Vm.Alike.refl U.vm) qK, qD⟩, fun U hU hW => ⟨rfl, by rw [hU], by rw [hU]; exact hPc, va_K.moved hW.alike hK, hDc⟩⟩ rfl rfl hl.1 rfl (lv_room (Nat.le_of_ble_eq_true rfl)) dL_law_12 ⟨Nat.le_of_ble_eq_true rfl, Nat.le_of_ble_eq_true rfl⟩) hS (fun q _ h => hFc q h) hFc (fun u t H1 locs ht hvm _ hB1 hz1 hk1 hS => ?_)
  obtain ⟨g, u⟩ := u
  obtain ⟨hu, hP1, hD1⟩ := hB1
  rw [ht] at hP1
  obtain ⟨hP, hD⟩ := join_last hP hD hk1 hFc hP1 hD1
  clear hPc hDc hFc hk1 hz1 hP1 hD1 ht hvm
  refine lv_astore_n (lv' := [(2, .ref y), (1, .ref x), (0, .ref b)]) hx hb dL_law_15 rfl hl (by decide) rfl (fun ls hl => ?_)
  refine lv_iconst (v := 1) hx hb dL_law_16 (by decide) ?_
  refine va_newa (atype := .long) (ty := .long) (a0 := (1, .inr (.inl (fun _ => 0)))) (N' := 1) hx hb (hts _ q46) rfl hK hP hD hS hA (fun _ => rfl) (by decide) (by decide) (by decide) (Nat.le_of_ble_eq_true rfl) (Nat.le_of_ble_eq_true rfl) dL_law_17 (fun z cA H hK1 hP hD hS => ?_)
  have eA : cA = cy 2 := cy_eq hK1 (i := 6) (j := 2) rfl rfl
  subst eA
  clear hK1
  rw [woF_list] at hP hD
  refine lv_astore_n (lv' := [(3, .ref z), (2, .ref y), (1, .ref x), (0, .ref b)]) hx hb dL_law_19 rfl hl (by decide) rfl (fun ls hl => ?_)
  refine lv_iconst (v := 0) hx hb dL_law_20 (by decide) ?_
  refine lv_istore (lv' := [(4, .int 0), (3, .ref z), (2, .ref y), (1, .ref x), (0, .ref b)]) hx hb dL_law_21 hl (by decide) rfl (fun ls hl => ?_)
  obtain ⟨G, g0, g8, g23, hGD, hPw⟩ := world_of hJ hu hP hD
  refine W.widen (k := 200 + 0) (n := 10000 + 8 * 0) (Nat.le_of_ble_eq_true rfl) (Nat.le_of_ble_eq_true rfl) ?_
  have hF : FX p m c cL_law 8 RL s #[Value.ref b] (fun q => s.heap.size ≤ q) G cy dC dI := ⟨hx, hb, hml, hown, hts, hK, hNW, hGD⟩
  refine ll_loop hL (l := l) (e := e) (below := below) ⟨hF, hB, hlt, hNG, hU, hSn, hNc, hr, hlocks⟩ 512 0 rfl (lvI b (6 * 0)) [] M0 ⟨rfl, rfl, RR_0⟩ H _ ls hPw hS ?_
  subst g0
  subst g8
  subst g23
  exact lv_sub hl [4, 3, 2, 1, 0] rfl
