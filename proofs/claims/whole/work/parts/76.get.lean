/-! ===== MappingMoves.get ===== -/
abbrev nAI : String := "java/lang/ArrayIndexOutOfBoundsException"
abbrev chAI : List String := ["java/lang/IndexOutOfBoundsException", "java/lang/RuntimeException", "java/lang/Exception"]
/-- words of a throw that aren't good ones: on the tables, but not kept by every word's rule -/
def ngL : List Cond := [.declares (Bundle.init0 "java/lang/IndexOutOfBoundsException"), .declares (Bundle.init0 "java/lang/RuntimeException"), .declares (Bundle.init0 "java/lang/Exception"), .declares (Bundle.init0 "java/lang/Throwable"), .castable nAI nAI, .castable Bundle.nN Bundle.nN, .castable Bundle.rN Bundle.tN]
def NG (U : State) : Prop := ∀ w ∈ ngL, va_Nw w U
theorem ngL_tab : ∀ w ∈ ngL, w.onTables = true := by decide +kernel
theorem NG.same {u U : State} (h : u.vm = U.vm) (hN : NG u) : NG U := fun w hw => va_Nw.same (ngL_tab w hw) h (hN w hw)
theorem NG.warm {u U : State} (h : u.WarmedH U.vm) (hN : NG u) : NG U := fun w hw => by
  have h0 := hN w hw
  simp only [ngL, List.mem_cons, List.not_mem_nil, or_false] at hw
  rcases hw with rfl | rfl | rfl | rfl | rfl | rfl | rfl
  · exact va_Nw.warmD h h0
  · exact va_Nw.warmD h h0
  · exact va_Nw.warmD h h0
  · exact va_Nw.warmD h h0
  · exact va_Nw.warmC h h0
  · exact va_Nw.warmC h h0
  · exact va_Nw.warmC h h0
theorem ai_in : ∀ w ∈ vx_at0 RX2 70 nAI chAI, (w ∈ lw_tbl ∧ goodWord w = true) ∨ w ∈ ngL := by decide +kernel
theorem ai_ot : ∀ w ∈ Cond.classLink RX2 68 nAI :: Cond.initialized nAI :: vx_at0 RX2 70 nAI chAI, vx_ot w = true := by decide +kernel
theorem np_in : ∀ w ∈ vn_at, (w ∈ lw_tbl ∧ goodWord w = true) ∨ w ∈ ngL := by decide +kernel
theorem np_ot : ∀ w ∈ Cond.classLink RX2 71 Bundle.nN :: Cond.methodLink RX2 73 (Bundle.init0 Bundle.nN) :: vn_at, vx_ot w = true := by decide +kernel
theorem ng_at {args : Array Value} {s : State} {L : List Cond} (h : ∀ w ∈ L, (w ∈ lw_tbl ∧ goodWord w = true) ∨ w ∈ ngL) (hts : ∀ w ∈ lw_all, w.before args s = true) (hN : NG s) : ∀ w ∈ L, w.before args s = true := fun w hw => by
  rcases h w hw with ⟨h1, h2⟩ | h1
  · exact hts w (List.mem_filter.mpr ⟨h1, h2⟩)
  · exact va_Nw.use (ngL_tab w h1) (hN w h1)
/-- 0: there is an answer; 1: NullPointerException; 2: ArrayIndexOutOfBoundsException -/
def x_gc (M : MM) (p i : Int32) : Int32 := if isPl p = false then 2 else if M.1 4 (cl p) 1 = -1 then 1 else if inC M (cl p) i = false then 2 else if ¬ M.1 4 (cl p) 0 < 7 ∧ (M.2.1 6 (cl p) (cl i)).toInt32 = -1 then 1 else 0
abbrev rmX2_get : Room := { frames := 8, cells := 1, slots := 8, locals := 400 }
def BX2_get_77 (K7 K29 K45 K69 K82 : PT) (lv : LV) (st : List AV) (M : MM) : Prop := (i_aload 3 (i_iload 2 (i_callV 1 4 SX0_tells (i_cut [] K82)))) lv st M
set_option maxRecDepth 100000 in
set_option maxHeartbeats 4000000 in
theorem sBX2_get_77 {p : Program} {l : Launch} {e : Env} {s : State} {m : MethodId} {args : Array Value} {below : List Frame} {meth : Method} {c : Code} {cells slots : Nat} {Q : State → Prop} {A : Nat → Prop} {G : Nat → Nat → Nat} {cy dC : Nat → ClassId} {dI : Nat → Nat → Nat} {K7 K29 K45 K69 K82 : PT} (F : FX p m c cX2_get 4 RX2 s args A G cy dC dI) (hcs : cells ≤ rmX2_get.cells ∧ slots ≤ rmX2_get.slots) (h7 : SO p l e rmX2_get s m args below meth c cells slots Q 4 A G cy dC dI 7 K7) (h29 : SO p l e rmX2_get s m args below meth c cells slots Q 4 A G cy dC dI 29 K29) (h45 : SO p l e rmX2_get s m args below meth c cells slots Q 4 A G cy dC dI 45 K45) (h69 : SO p l e rmX2_get s m args below meth c cells slots Q 4 A G cy dC dI 69 K69) (h82 : SO p l e rmX2_get s m args below meth c cells slots Q 4 A G cy dC dI 82 K82) : SO p l e rmX2_get s m args below meth c cells slots Q 4 A G cy dC dI 77 (BX2_get_77 K7 K29 K45 K69 K82) := by
  exact (s_aload_n F dX2_get_77 rfl (s_iload_n F dX2_get_78 rfl (s_callVl F dX2_get_79 (ctX0_tells l) (lw_V q460 q173 q174 q2 q175) ⟨rfl, rfl⟩ (by decide +kernel) (by decide) hcs (ci := 0) rfl (fun _ _ _ _ => ⟨_, rfl⟩) (s_cut [] h82))))
def BX2_get_0 (K7 K29 K45 K69 K82 : PT) (lv : LV) (st : List AV) (M : MM) : Prop := (i_iload 1 (i_call 1 SX2_isPlace (i_if (fun a => a = 0) (i_cut [] K7) (i_aload 0 (i_getR 0 1 (fun _ => 0) (i_iload 1 (i_aald (i_astore 3 (i_aload 3 (i_callV 0 4 SX0_isGone (i_if (fun a => a = 0) (i_aload 3 (i_iload 2 (i_callV 1 4 SX0_hasCell (i_if (fun a => a = 0) (i_cut [] K45) (i_aload 3 (i_callV 0 4 SX0_isShelf (i_if (fun a => a = 0) (i_cut [2, 3] (BX2_get_77 K7 K29 K45 K69 K82)) (i_aload 3 (i_iload 2 (i_callV 1 4 SX0_heldPart (i_push (.inl (.int (-1))) (i_cmp (fun a b => a = b) (i_cut [] K69) (i_cut [2, 3] (BX2_get_77 K7 K29 K45 K69 K82)))))))))))))) (i_cut [] K29)))))))))))) lv st M
set_option maxRecDepth 100000 in
set_option maxHeartbeats 4000000 in
theorem sBX2_get_0 {p : Program} {l : Launch} {e : Env} {s : State} {m : MethodId} {args : Array Value} {below : List Frame} {meth : Method} {c : Code} {cells slots : Nat} {Q : State → Prop} {A : Nat → Prop} {G : Nat → Nat → Nat} {cy dC : Nat → ClassId} {dI : Nat → Nat → Nat} {K7 K29 K45 K69 K82 : PT} (F : FX p m c cX2_get 4 RX2 s args A G cy dC dI) (hcs : cells ≤ rmX2_get.cells ∧ slots ≤ rmX2_get.slots) (h7 : SO p l e rmX2_get s m args below meth c cells slots Q 4 A G cy dC dI 7 K7) (h29 : SO p l e rmX2_get s m args below meth c cells slots Q 4 A G cy dC dI 29 K29) (h45 : SO p l e rmX2_get s m args below meth c cells slots Q 4 A G cy dC dI 45 K45) (h69 : SO p l e rmX2_get s m args below meth c cells slots Q 4 A G cy dC dI 69 K69) (h82 : SO p l e rmX2_get s m args below meth c cells slots Q 4 A G cy dC dI 82 K82) : SO p l e rmX2_get s m args below meth c cells slots Q 4 A G cy dC dI 0 (BX2_get_0 K7 K29 K45 K69 K82) := by
  exact (s_iload_n F dX2_get_0 rfl (s_callSi F dX2_get_1 (ctX2_isPlace l) (lw_S q89 q90 q1 q91) ⟨rfl, rfl⟩ (by decide +kernel) (by decide) hcs (s_if_ne F dX2_get_4 (by decide) (s_aload_n F dX2_get_15 rfl (s_getR F (ci := 2) (f := 0) dX2_get_16 rfl in_X2 (by decide) q69 (fun _ _ _ _ => ⟨_, rfl, rfl⟩) (s_iload_n F dX2_get_19 rfl (s_aald F dX2_get_20 (s_astore_n F dX2_get_21 rfl (by decide) (s_aload_n F dX2_get_22 rfl (s_callVi F dX2_get_23 (ctX0_isGone l) (lw_V q111 q112 q113 q2 q114) ⟨rfl, rfl⟩ (by decide +kernel) (by decide) hcs (ci := 0) rfl (fun _ _ _ _ => ⟨_, rfl⟩) (s_if_eq F dX2_get_26 (by decide) (s_aload_n F dX2_get_37 rfl (s_iload_n F dX2_get_38 rfl (s_callVi F dX2_get_39 (ctX0_hasCell l) (lw_V q148 q149 q150 q2 q151) ⟨rfl, rfl⟩ (by decide +kernel) (by decide) hcs (ci := 0) rfl (fun _ _ _ _ => ⟨_, rfl⟩) (s_if_ne F dX2_get_42 (by decide) (s_aload_n F dX2_get_53 rfl (s_callVi F dX2_get_54 (ctX0_isShelf l) (lw_V q147 q97 q98 q2 q99) ⟨rfl, rfl⟩ (by decide +kernel) (by decide) hcs (ci := 0) rfl (fun _ _ _ _ => ⟨_, rfl⟩) (s_if_eq F dX2_get_57 (by decide) (s_cut [2, 3] (sBX2_get_77 F hcs h7 h29 h45 h69 h82)) (s_aload_n F dX2_get_60 rfl (s_iload_n F dX2_get_61 rfl (s_callVi F dX2_get_62 (ctX0_heldPart l) (lw_V q241 q242 q243 q2 q244) ⟨rfl, rfl⟩ (by decide +kernel) (by decide) hcs (ci := 0) rfl (fun _ _ _ _ => ⟨_, rfl⟩) (s_iconst F dX2_get_65 (by decide) (s_icmp_ne F dX2_get_66 (by decide) (s_cut [2, 3] (sBX2_get_77 F hcs h7 h29 h45 h69 h82)) (s_cut [] h69))))))))) (s_cut [] h45))))) (s_cut [] h29))))))))) (s_cut [] h7))))
/-- what get finds, besides its world -/
def PCG (G : Nat → Nat → Nat) (cy : Nat → ClassId) (dC : Nat → ClassId) (dI : Nat → Nat → Nat) (as : List AV) (M : MM) : Array Value → State → Prop := va_Pc (as.map (cv G)) (fun U => va_P (dC, dI) mcl (wl G cy M) U.heap ∧ va_K (dC, dI) mcl (tys cy) U ∧ NW U ∧ NG U ∧ vx_Zq Bundle.tN "UNASSIGNED_STACK" Bundle.steD (AW G) U U.heap ∧ vx_Zq Bundle.tN "SUPPRESSED_SENTINEL" Bundle.listD (AW G) U U.heap)
def BXG (G : Nat → Nat → Nat) (cy : Nat → ClassId) (dC : Nat → ClassId) (dI : Nat → Nat → Nat) (M : MM) (a b : Int32) : String → MM → State → Prop := fun E u t => ((E = Bundle.nN ∧ x_gc M a b = 1) ∨ (E = nAI ∧ x_gc M a b = 2)) ∧ va_P (dC, dI) mcl (wl G cy u) t.heap
set_option maxHeartbeats 4000000 in
set_option maxRecDepth 100000 in
theorem ctX2_get (l : Launch) (hl : l.stackTraces = false) (G : Nat → Nat → Nat) (cy dC : Nat → ClassId) (dI : Nat → Nat → Nat) (hG : GJ G) (a b : Int32) (M : MM) (hX : XOK M) : vx_Met l yX2_get (ws_ yX2_get cX2_get 4 (some .long)) rmX2_get (PCG G cy dC dI [.inr (0, 0), .inl (.int a), .inl (.int b)] M) (QL G cy dC dI (fun o M' => o = some (.inl (.long (xT M (cl a) (cl b)))) ∧ M' = M ∧ x_gc M a b = 0)) (vx_X (fun u => u = M) (BXG G cy dC dI M a b) (AW G)) 1 8 (AW G) := by
  refine vx_ofW (cc := cX2_get) (maxL := 4) (ret := some .long) (by decide) rfl ?_
  intro p e s m args below meth c s₁ B hml htab hv
  obtain ⟨rfl, hP, hK, hN, hNG, hU, hSn⟩ := hv
  have hts0 := atoms_spec (ws := ws_ yX2_get cX2_get 4 (some .long)) B.pre
  have hts : ∀ w ∈ lw_all, w.before _ s = true := fun w hw => hts0 w (List.mem_cons_of_mem _ hw)
  have hF : FX p m c cX2_get 4 RX2 s (([.inr (0, 0), .inl (.int a), .inl (.int b)] : List AV).map (cv G)).toArray (AW G) G cy dC dI := ⟨B.exec, B.bytes, hml, findClass_of_methodNamed B.named, hts, hK, hN, AW_GD hG⟩
  have hown : s.vm.findClass RX2 = some m.cls := findClass_of_methodNamed B.named
  have hlk := B.notSynchronized
  have hl0 := lv_entry (([.inr (0, 0), .inl (.int a), .inl (.int b)] : List AV).map (cv G)) (n := 4) (by rw [aLen]; exact Nat.le_of_ble_eq_true rfl)
  rw [lg_entry_eq]
  rw [aLV_eq] at hl0
  have tAI : ∀ pc, decode cX2_get pc = .ok (.new 68, 3) → decode cX2_get (pc + 3) = .ok (.dup, 1) → decode cX2_get (pc + 4) = .ok (.invokespecial 70, 3) → decode cX2_get (pc + 7) = .ok (.athrow, 1) → SO p l e rmX2_get s m (([.inr (0, 0), .inl (.int a), .inl (.int b)] : List AV).map (cv G)).toArray below meth c 0 0 (vx_MQ below (QL G cy dC dI (fun o M' => o = some (.inl (.long (xT M (cl a) (cl b)))) ∧ M' = M ∧ x_gc M a b = 0)) (vx_X (fun u => u = M) (BXG G cy dC dI M a b) (AW G)) (([.inr (0, 0), .inl (.int a), .inl (.int b)] : List AV).map (cv G)).toArray s 1 8 (AW G)) 4 (AW G) G cy dC dI pc (fun _ st M' => st = [] ∧ M' = M ∧ x_gc M a b = 2) := by
    intro pc d0 d3 d4 d7 lv st M' hk H locs ls hP hS hl
    obtain ⟨h1, h2, hg⟩ := hk
    subst h1
    rw [h2] at hP
    exact vx_throw0 (names := chAI) (mc := 1) (ms := 8) B.exec B.bytes ‹_› hown (by decide +kernel) (by decide +kernel) (hts _ q450) (hts _ q11) (ng_at ai_in hts hNG) ai_ot hU hSn hS (hl.1.trans hml.symm) d0 d3 d4 d7 (fun x hx => (htab x hx).elim) (by decide) (Nat.le_of_ble_eq_true rfl) (by decide) (by decide) hlk (fun t ht hz hk => ⟨M, rfl, ⟨.inr ⟨rfl, hg⟩, fun k q h => (hP k q h).kept (hk _ (hP k q h).lt)⟩, ⟨Nat.le_trans hS.1 hz, fun q h1 h2 => (hk q (Nat.lt_of_lt_of_le h1 hS.1)).trans (hS.2.1 q h1 h2)⟩⟩) hS.2.2 (by decide) (by decide)
  have tNP : ∀ pc, decode cX2_get pc = .ok (.new 71, 3) → decode cX2_get (pc + 3) = .ok (.dup, 1) → decode cX2_get (pc + 4) = .ok (.invokespecial 73, 3) → decode cX2_get (pc + 7) = .ok (.athrow, 1) → SO p l e rmX2_get s m (([.inr (0, 0), .inl (.int a), .inl (.int b)] : List AV).map (cv G)).toArray below meth c 0 0 (vx_MQ below (QL G cy dC dI (fun o M' => o = some (.inl (.long (xT M (cl a) (cl b)))) ∧ M' = M ∧ x_gc M a b = 0)) (vx_X (fun u => u = M) (BXG G cy dC dI M a b) (AW G)) (([.inr (0, 0), .inl (.int a), .inl (.int b)] : List AV).map (cv G)).toArray s 1 8 (AW G)) 4 (AW G) G cy dC dI pc (fun _ st M' => st = [] ∧ M' = M ∧ x_gc M a b = 1) := by
    intro pc d0 d3 d4 d7 lv st M' hk H locs ls hP hS hl
    obtain ⟨h1, h2, hg⟩ := hk
    subst h1
    rw [h2] at hP
    exact vn_throw (mc := 1) (ms := 8) B.exec B.bytes ‹_› hown (hts _ q458) (hts _ q459) (ng_at np_in hts hNG) np_ot hU hSn hS (hl.1.trans hml.symm) d0 d3 d4 d7 (fun x hx => (htab x hx).elim) (by decide) (Nat.le_of_ble_eq_true rfl) (by decide) (by decide) hlk (fun t ht hz hk => ⟨M, rfl, ⟨.inl ⟨rfl, hg⟩, fun k q h => (hP k q h).kept (hk _ (hP k q h).lt)⟩, ⟨Nat.le_trans hS.1 hz, fun q h1 h2 => (hk q (Nat.lt_of_lt_of_le h1 hS.1)).trans (hS.2.1 q h1 h2)⟩⟩) hS.2.2 (by decide) (by decide)
  have tR : SO p l e rmX2_get s m (([.inr (0, 0), .inl (.int a), .inl (.int b)] : List AV).map (cv G)).toArray below meth c 0 0 (vx_MQ below (QL G cy dC dI (fun o M' => o = some (.inl (.long (xT M (cl a) (cl b)))) ∧ M' = M ∧ x_gc M a b = 0)) (vx_X (fun u => u = M) (BXG G cy dC dI M a b) (AW G)) (([.inr (0, 0), .inl (.int a), .inl (.int b)] : List AV).map (cv G)).toArray s 1 8 (AW G)) 4 (AW G) G cy dC dI 82 (fun _ st M' => st = [.inl (.long (xT M (cl a) (cl b)))] ∧ M' = M ∧ x_gc M a b = 0) := by
    intro lv st M' hk H locs ls hP hS hl
    obtain ⟨h1, h2, hg⟩ := hk
    subst h1
    rw [h2] at hP
    refine W.widen (k := 1) (n := 8) (by decide) (by decide) ?_
    exact vx_ret (W.lret B.exec B.bytes B.returns (fun t ht hW => ⟨⟨_, M, rfl, ⟨rfl, rfl, hg⟩, by show va_P _ _ _ t.heap; rw [ht]; exact hP⟩, hS.F ht⟩) hS.2.2 dX2_get_82 hlk)
  refine sBX2_get_0 hF ⟨by decide, by decide⟩ (tAI 7 dX2_get_7 dX2_get_10 dX2_get_11 dX2_get_14) (tNP 29 dX2_get_29 dX2_get_32 dX2_get_33 dX2_get_36) (tAI 45 dX2_get_45 dX2_get_48 dX2_get_49 dX2_get_52) (tNP 69 dX2_get_69 dX2_get_72 dX2_get_73 dX2_get_76) tR _ [] _ ?_ s.heap [] _ hP va_S.rf hl0
  clear tAI tNP tR
  simp only [BX2_get_0, BX2_get_77, i_push, i_iload, i_aload, i_astore, i_if, i_cmp, i_getR, i_aald, i_call, i_callV, i_cut, lk, wd, rm1, rm2, pick, popn, catS, pushO, aLV, cond_true, cond_false, Bool.not_true, Bool.not_false, Bool.and_true, Bool.and_false, Bool.true_and, Bool.false_and, eq_self, true_and, and_true, Nat.reduceBEq, Nat.reduceAdd, reduceIte, Nat.reduceEqDiff, SX0_hasCell, SX0_heldPart, SX0_isGone, SX0_isShelf, SX0_tells, SX2_isPlace]
  try simp only [tCnt, aK, aN, aR, eq_self, true_and, and_true, Nat.reduceLeDiff, Nat.reduceEqDiff]
  simp only [b2i_0]
  by_cases h1 : isPl a = true
  · obtain ⟨pv, pl⟩ := isPl_in h1
    have p30 : a.toNatClampNeg < 30 := Nat.lt_trans pl (by decide)
    have h1' : ¬ isPl a = false := by rw [h1]; decide
    refine ⟨fun q => absurd h1 q, fun _ => ⟨by decide, .inl trivial, by decide, pv, p30, p30, fun h2 => ⟨p30, p30, fun h3 => ?_, fun h3 => ?_⟩, fun h2 => ?_⟩⟩
    · have h3' : inC M (cl a) b = false := by simpa using h3
      unfold x_gc
      rw [if_neg h1', if_neg h2, if_pos h3']
    · have h3 : inC M (cl a) b = true := Decidable.not_not.mp h3
      have h3' : ¬ inC M (cl a) b = false := by rw [h3]; decide
      have vb := (has_in (hX.1 _ p30) h3).1
      have gr := hX.2.1 a.toNatClampNeg b.toNatClampNeg
      refine ⟨p30, p30, fun h4 => ⟨p30, p30, vb, gr, ?_⟩, fun h4 => ⟨p30, p30, vb, fun h5 => ?_, fun h5 => ⟨p30, p30, vb, gr, ?_⟩⟩⟩
      · unfold x_gc
        rw [if_neg h1', if_neg h2, if_neg h3', if_neg (fun q => h4 q.1)]
      · unfold x_gc
        rw [if_neg h1', if_neg h2, if_neg h3', if_pos ⟨Decidable.not_not.mp h4, h5⟩]
      · unfold x_gc
        rw [if_neg h1', if_neg h2, if_neg h3', if_neg (fun q => h5 q.2)]
    · have h2 := Decidable.not_not.mp h2
      unfold x_gc
      rw [if_neg h1', if_pos h2]
  · refine ⟨fun _ => ?_, fun q => absurd h1 q⟩
    unfold x_gc
    rw [if_pos (by simpa using h1)]
