/-! THE CLAIM OUT OF ONE WALK OF THE LAW'S BODY. Your part is whole_start (and what it stands on); all else here is the same for every law, but numbers. -/
def R_law : String := "MappingMovesLaw"
def lw_P (b : Addr) (xs : List Int32) (args : Array Value) (s : State) : Prop := args = #[.ref b] ∧ s.IntsAt b xs ∧ xs.length ≤ 3072 ∧ (Jvm.Cond.and given_1 narrow_1).before args s = true
/-- what a walk over the start with the record d0 says of its end, said of the start itself -/
theorem lw_closed {s t : State} {o : Outcome} {d0 : Drawn} {L : List Loc} {k n : Nat} (hd0 : s.drawn.sameBut d0 lw_cs) (hv : ∃ v, o = .returned v) (hW : (s.setDrawn d0).WarmedH t.vm) (hs : (s.setDrawn d0).sameButNew ({ t with vm := s.vm } : State) L k n) : State.butDraws s t lw_cs (fun t1 => Framed s o t1 L k n) := by
  have h2 : t.drawn = d0 := congrArg State.drawn hs.1
  refine ⟨⟨hv, hW, State.sameButNew.setDrawn hs s.drawn⟩, ?_, by decide⟩
  rw [h2]
  exact hd0
def lw_Q (_ : Array Value) (s : State) (o : Outcome) (t : State) : Prop := o = .returned (some (.int 1)) ∧ State.butDraws s t lw_cs (fun t1 => Framed s o t1 [] 603072 7211114)
def lw_Z (below : List Frame) (a : Array Value) (s : State) : State → Prop := fun t => ∃ o, t.status = .running ∧ Ended t below o ∧ lw_Q a s o t
/-- the law's own end, with 1 on the stack, nothing written that was there before, its room as the claim has it; d0: the record of draws at this point (at the entry s.drawn: begin with 'refine W.base ?_' and 'have hd0 := Drawn.sameBut.refl s.drawn lw_cs') -/
theorem lw_ret {p : Program} {l : Launch} {e : Env} {s : State} {m : MethodId} {below : List Frame} {meth : Method} {c : Code} {b : Nat} {d0 : Drawn} (hd0 : s.drawn.sameBut d0 lw_cs) (hx : p.tables.exec = Jvm.exec) (hb : c.code = code) (hr : meth.sig.returnType = ret) (hlocks : meth.locks = false) {pc : Nat} {H : Heap} {ls : Array Slot} (hdg : decode code pc = .ok (.ireturn, 1)) : W p l e room_1 (s.setDrawn d0) m #[Value.ref b] below meth c H [] 603072 7211114 (lw_Z below #[Value.ref b] s) (F0 m pc ls [.int 1]) := by
  intro T hT X
  obtain ⟨fs, hret, hrun, hended, hW, hframe⟩ := X.leave (v := some (.int 1)) (hlocks := hlocks) (fun h => by rw [hr] at h; cases h)
  have hmeth' : T.vm.method? m = some meth := X.method'
  refine ⟨T.setFrames fs, ?_, .returned (some (.int 1)), hrun, hended, rfl, lw_closed hd0 ⟨_, rfl⟩ hW hframe⟩
  jvm_step X.here [X.here.top, hx, hb, hdg, hmeth', hr, ret, narrow_b1]
  (try refine ⟨rfl, ?_⟩); (try refine ⟨rfl, ?_⟩)
  first | (intro acts; rw [hret _ acts rfl rfl rfl]) | rw [hret _ _ rfl rfl rfl]
  exact Steps.refl _
/-- what holds at the law's entry: the machine, the code, the tables' words (any of lw_tbl by 'hts w (by decide +kernel)'), the script of L ints xs at the cell b, what the Statement gives of the start (any of its parts by flat_of_before) -/
def lw_At (p : Program) (s : State) (m : MethodId) (meth : Method) (c : Code) (b L : Nat) (xs : Nat → Int32) : Prop :=
  p.tables.exec = Jvm.exec ∧ c.code = code ∧ meth.sig.returnType = ret ∧ c.maxLocals = 8 ∧ s.vm.findClass R_law = some m.cls ∧ (∀ w ∈ lw_tbl, w.before #[Value.ref b] s = true) ∧ va_X b L xs s s.heap ∧ b < s.heap.size ∧ meth.locks = false ∧ (Jvm.Cond.and given_1 narrow_1).before #[Value.ref b] s = true
section LL
variable {p : Program} {l : Launch} {e : Env} {s : State} {m : MethodId} {below : List Frame} {meth : Method} {c : Code} {b L : Nat} {xs : Nat → Int32} {G : Nat → Nat → Nat} {cy dC : Nat → ClassId} {dI : Nat → Nat → Nat}
theorem wsG_in : GoodIn lw_all (va_wsS RL 50 yL_get wsG) := fun w hw => by
  have : w ∈ lw_all := by
    rcases List.mem_append.mp hw with hw | hw
    · simp only [List.mem_cons, List.not_mem_nil, or_false] at hw
      rcases hw with rfl | rfl | rfl
      · exact q330
      · exact q331
      · exact q0
    · rcases List.mem_cons.mp hw with rfl | hw
      · exact qG
      · exact hw
  exact ⟨this, good_of_word (lw_good _ this)⟩
/-- all that the loop's walk stands on -/
def LC (p : Program) (l : Launch) (s : State) (m : MethodId) (meth : Method) (c : Code) (b L : Nat) (xs : Nat → Int32) (G : Nat → Nat → Nat) (cy dC : Nat → ClassId) (dI : Nat → Nat → Nat) : Prop :=
  FX p m c cL_law 8 RL s #[Value.ref b] (fun q => s.heap.size ≤ q) G cy dC dI ∧ SB (fun q => s.heap.size ≤ q) s b L xs ∧ l.stackTraces = false ∧ NG s ∧ vx_Zq Bundle.tN "UNASSIGNED_STACK" Bundle.steD (fun q => s.heap.size ≤ q) s s.heap ∧ vx_Zq Bundle.tN "SUPPRESSED_SENTINEL" Bundle.listD (fun q => s.heap.size ≤ q) s s.heap ∧ va_Nc nAI Bundle.nN s ∧ meth.sig.returnType = ret ∧ meth.locks = false
theorem ll_end {cells slots : Nat} (h : LC p l s m meth c b L xs G cy dC dI) (h1 : cells ≤ 603072) (h2 : slots ≤ 7211114) : SO p l e room_1 s m #[Value.ref b] below meth c cells slots (lw_Z below #[Value.ref b] s) 8 (fun q => s.heap.size ≤ q) G cy dC dI 944 (fun _ st _ => st = []) := by
  intro lv st M hk H locs ls hP hS hl
  subst hk
  obtain ⟨F, -, -, -, -, -, -, hr, hlk⟩ := h
  refine lv_iconst (v := 1) F.1 F.2.1 dL_law_944 (by decide) ?_
  refine va_forget (fun q hq => hS.2.2 q hq) ?_
  refine W.widen (k := 603072) (n := 7211114) h1 h2 ?_
  exact lw_ret (d0 := s.drawn) (Drawn.sameBut.refl s.drawn lw_cs) F.1 F.2.1 hr hlk dL_law_945
set_option maxHeartbeats 4000000 in
set_option maxRecDepth 100000 in
theorem ll_get {d : Nat} (hL : L ≤ 3072) (h : LC p l s m meth c b L xs G cy dC dI) (hd : d ≤ 512) (h938 : SO p l e room_1 s m #[Value.ref b] below meth c (200 + d + 1) (10000 + 8 * d + 8) (lw_Z below #[Value.ref b] s) 8 (fun q => s.heap.size ≤ q) G cy dC dI 938 (fun lv st M => lv = lvI b (6 * d) ∧ st = [] ∧ RR M M ∧ 6 * d + 6 ≤ L)) : SO p l e room_1 s m #[Value.ref b] below meth c (200 + d) (10000 + 8 * d) (lw_Z below #[Value.ref b] s) 8 (fun q => s.heap.size ≤ q) G cy dC dI 380 (fun lv st M => lv = lvI b (6 * d) ∧ st = [.inr (23, 0), .inl (.int (xs (nI (6 * d) + 2).toNatClampNeg)), .inl (.int (xs (nI (6 * d) + 1).toNatClampNeg)), .inr (0, 0)] ∧ RR M M ∧ 6 * d + 6 ≤ L) := by
  intro lv st M hk H locs ls hP hS hls
  obtain ⟨h1, h2, r, hi⟩ := hk
  subst h1
  subst h2
  obtain ⟨F, hB, hl, hNG, hU, hSn, hNc, hr, hlk⟩ := h
  have hA : ∀ q, AW G q → s.heap.size ≤ q := fun q hq => by
    obtain ⟨t9, i9, h9, rfl⟩ := hq; exact F.2.2.2.2.2.2.2.2 _ _ h9
  refine va_calli (vx_runSW (As := [.ref (G 0 0), .int (xs (nI (6 * d) + 1).toNatClampNeg), .int (xs (nI (6 * d) + 2).toNatClampNeg), .ref (G 23 0)]) (rest := []) ⟨F.1, F.2.1, F.2.2.1, F.2.2.2.1, F.2.2.2.2.1⟩ (ctL_get l hl G cy dC dI F.2.2.2.2.2.2.2.1 (xs (nI (6 * d) + 1).toNatClampNeg) (xs (nI (6 * d) + 2).toNatClampNeg) M (RR_XOK r)) (vx_cwSW 4 F.2.2.2.2.1 wsG_in rfl rfl rfl (by decide +kernel) ⟨Nat.le_of_ble_eq_true rfl, Nat.le_of_ble_eq_true rfl⟩) ⟨PCH_blind _ _, fun U hU2 hW => ⟨rfl, ⟨by rw [hU2]; exact hP, va_K.moved hW.alike F.2.2.2.2.2.1, NW.warm hW F.2.2.2.2.2.2.1, NG.warm hW hNG, by rw [hU2]; exact vx_Zq.moved hW.alike ((hU.kept hS.2.1).narrow hA), by rw [hU2]; exact vx_Zq.moved hW.alike ((hSn.kept hS.2.1).narrow hA)⟩, va_Nc.moved hW.alike hNc⟩⟩ rfl rfl hls.1 rfl (lv_room (Nat.le_of_ble_eq_true rfl)) dL_law_380 ⟨by show _ ≤ 603072; omega, by show _ ≤ 7211114; omega⟩) hS (fun q _ hq => hA q hq) hA (fun x u t H1 locs1 ht hvm hw hB2 hz1 hk1 hS1 => ?_)
  obtain ⟨e1, e2⟩ := hw
  have e1 : x = x_gc M (xs (nI (6 * d) + 1).toNatClampNeg) (xs (nI (6 * d) + 2).toNatClampNeg) := by
    have := Option.some.inj e1
    injection this with h
    injection h
  rw [e2] at hB2
  rw [e1]
  exact sBL_383 F hB ⟨by show _ ≤ 603072; omega, by show _ ≤ 7211114; omega⟩ h938 (lvI b (6 * d)) [.inl (.int (x_gc M (xs (nI (6 * d) + 1).toNatClampNeg) (xs (nI (6 * d) + 2).toNatClampNeg)))] _ (cs_383 hi hL r (fun N rN => ⟨rfl, rfl, rN, hi⟩)) H1 locs1 ls (by rw [← ht]; exact hB2) hS1 hls
theorem ll_le {d : Nat} (hL : L ≤ 3072) (hd : d ≤ 512) (h : ¬ Int32.ofNat L - 6 < nI (6 * d)) : 6 * d + 6 ≤ L := by
  have h1 : ¬ nI L - nI 6 < nI (6 * d) := h
  rw [Int32.lt_iff_toInt_lt, Int32.toInt_sub, nI_toInt (by omega), nI_toInt (by omega), nI_toInt (by omega), Int.bmod_eq_of_le (by omega) (by omega)] at h1
  omega
set_option maxHeartbeats 4000000 in
set_option maxRecDepth 100000 in
theorem ll_step {d : Nat} (hL : L ≤ 3072) (h : LC p l s m meth c b L xs G cy dC dI) (hd : d ≤ 512) (h938 : SO p l e room_1 s m #[Value.ref b] below meth c (200 + d + 1) (10000 + 8 * d + 8) (lw_Z below #[Value.ref b] s) 8 (fun q => s.heap.size ≤ q) G cy dC dI 938 (fun lv st M => lv = lvI b (6 * d) ∧ st = [] ∧ RR M M ∧ 6 * d + 6 ≤ L)) : SO p l e room_1 s m #[Value.ref b] below meth c (200 + d) (10000 + 8 * d) (lw_Z below #[Value.ref b] s) 8 (fun q => s.heap.size ≤ q) G cy dC dI 23 (fun lv st M => lv = lvI b (6 * d) ∧ st = [] ∧ RR M M) := by
  have h380 := ll_get hL h hd h938
  have h938w := SO_widen (cells := 200 + d) (slots := 10000 + 8 * d) (by omega) (by omega) h938
  have h944 := ll_end (cells := 200 + d) (slots := 10000 + 8 * d) h (below := below) (e := e) (by omega) (by omega)
  obtain ⟨F, hB, hl, hNG, hU, hSn, hNc, hr, hlk⟩ := h
  have hcs : 200 + d ≤ room_1.cells ∧ 10000 + 8 * d ≤ room_1.slots := ⟨by show _ ≤ 603072; omega, by show _ ≤ 7211114; omega⟩
  intro lv st M hk
  obtain ⟨h1, h2, r⟩ := hk
  subst h1
  subst h2
  refine sBL_23 F hB hcs h944 (sBL_136 F hB hcs h938w) (sBL_185 F hB hcs h938w) (sBL_210 F hB hcs h938w) (sBL_235 F hB hcs h938w) (sBL_260 F hB hcs h938w) (sBL_285 F hB hcs h938w) (sBL_366 F hB hcs h380) (sBL_433 F hB hcs h938w) (sBL_470 F hB hcs h938w) (sBL_507 F hB hcs h938w) (sBL_544 F hB hcs h938w) (sBL_593 F hB hcs h938w) (sBL_630 F hB hcs h938w) (sBL_667 F hB hcs h938w) (sBL_704 F hB hcs h938w) (sBL_741 F hB hcs h938w) (sBL_814 F hB hcs h938w) (sBL_827 F hB hcs h938w) (sBL_876 F hB hcs h938w) (sBL_913 F hB hcs h938w) h938w (lvI b (6 * d)) [] M ?_
  simp only [BL_23, i_push, i_iload, i_aload, i_II, i_cmp, i_sw, i_cut, i_sld, i_slen, lk, wd, rm1, rm2, pick, popn, catS, pushO, aLV, cond_true, cond_false, Bool.not_true, Bool.not_false, Bool.and_true, Bool.and_false, Bool.true_and, Bool.false_and, eq_self, true_and, and_true, Nat.reduceBEq, Nat.reduceAdd, reduceIte, Nat.reduceEqDiff, i_swc]
  refine ⟨fun _ => by first | trivial | rfl, fun h => ?_⟩
  have hi := ll_le hL hd h
  have hK : ∀ N, RR N N → ((fun lv st M => lv = lvI b (6 * d) ∧ st = [] ∧ RR M M ∧ 6 * d + 6 ≤ L) : PT) (lvI b (6 * d)) [] N := fun N rN => ⟨rfl, rfl, rN, hi⟩
  have v0 : vp_in (nI (6 * d)) L := vp_in_nI (by omega) (by omega)
  have v1 : vp_in (nI (6 * d) + 1) L := sv_in hi hL 1 (by decide)
  have v2 : vp_in (nI (6 * d) + 2) L := sv_in hi hL 2 (by decide)
  have c366 : BL_366 b L xs (fun lv st M => lv = lvI b (6 * d) ∧ st = [.inr (23, 0), .inl (.int (xs (nI (6 * d) + 2).toNatClampNeg)), .inl (.int (xs (nI (6 * d) + 1).toNatClampNeg)), .inr (0, 0)] ∧ RR M M ∧ 6 * d + 6 ≤ L) (lvI b (6 * d)) [] M := by
    simp only [BL_366, i_push, i_iload, i_aload, i_II, i_cut, i_sld, lk, wd, rm1, rm2, pick, popn, catS, pushO, aLV, cond_true, cond_false, Bool.not_true, Bool.not_false, Bool.and_true, Bool.and_false, Bool.true_and, Bool.false_and, eq_self, true_and, and_true, Nat.reduceBEq, Nat.reduceAdd, reduceIte, Nat.reduceEqDiff]
    first | exact ⟨v1, v2, r, hi⟩ | exact ⟨v1, v2, rfl, rfl, r, hi⟩ | exact ⟨v1, v2, rfl, r, hi⟩
  exact ⟨v0, ⟨fun _ => cs_136 hi hL r hK, fun _ => ⟨fun _ => cs_185 hi hL r hK, fun _ => ⟨fun _ => cs_210 hi hL r hK, fun _ => ⟨fun _ => cs_235 hi hL r hK, fun _ => ⟨fun _ => cs_260 hi hL r hK, fun _ => ⟨fun _ => cs_285 hi hL r hK, fun _ => ⟨fun _ => c366, fun _ => ⟨fun _ => cs_433 hi hL r hK, fun _ => ⟨fun _ => cs_470 hi hL r hK, fun _ => ⟨fun _ => cs_507 hi hL r hK, fun _ => ⟨fun _ => cs_544 hi hL r hK, fun _ => ⟨fun _ => cs_593 hi hL r hK, fun _ => ⟨fun _ => cs_630 hi hL r hK, fun _ => ⟨fun _ => cs_667 hi hL r hK, fun _ => ⟨fun _ => cs_704 hi hL r hK, fun _ => ⟨fun _ => cs_741 hi hL r hK, fun _ => ⟨fun _ => cs_814 hi hL r hK, fun _ => ⟨fun _ => cs_827 hi hL r hK, fun _ => ⟨fun _ => cs_876 hi hL r hK, fun _ => ⟨fun _ => cs_913 hi hL r hK, fun _ => (by first | exact ⟨rfl, rfl, r, hi⟩ | exact ⟨rfl, r, hi⟩ | exact ⟨r, hi⟩)⟩⟩⟩⟩⟩⟩⟩⟩⟩⟩⟩⟩⟩⟩⟩⟩⟩⟩⟩⟩⟩
theorem ll_loop (hL : L ≤ 3072) (h : LC p l s m meth c b L xs G cy dC dI) : ∀ n d, d + n = 512 → SO p l e room_1 s m #[Value.ref b] below meth c (200 + d) (10000 + 8 * d) (lw_Z below #[Value.ref b] s) 8 (fun q => s.heap.size ≤ q) G cy dC dI 23 (fun lv st M => lv = lvI b (6 * d) ∧ st = [] ∧ RR M M)
  | 0, d, hd => ll_step hL h (by omega) (fun lv st M hk => by
      have := hk.2.2.2
      omega)
  | n + 1, d, hd => ll_step hL h (by omega) (by
      have ih := ll_loop hL h n (d + 1) (by omega)
      have F := h.1
      refine SO_imp (K := i_iinc 4 6 (i_cut [0, 1, 2, 3, 4] (fun lv st M => lv = lvI b (6 * (d + 1)) ∧ st = [] ∧ RR M M))) (sBL_938 F h.2.1 ⟨by show _ ≤ 603072; omega, by show _ ≤ 7211114; omega⟩ ih) (fun lv st M hk => ?_)
      obtain ⟨h1, h2, r, hi⟩ := hk
      subst h1
      subst h2
      have e6 : nI (6 * d) + 6 = nI (6 * (d + 1)) := by
        rw [show (6 : Int32) = nI 6 from rfl, nI_add]
        rfl
      simp only [i_iinc, i_cut, lk, wd, rm1, rm2, pick, popn, catS, pushO, aLV, cond_true, cond_false, Bool.not_true, Bool.not_false, Bool.and_true, Bool.and_false, Bool.true_and, Bool.false_and, eq_self, true_and, and_true, Nat.reduceBEq, Nat.reduceAdd, reduceIte, Nat.reduceEqDiff]
      rw [e6]
      first | exact ⟨rfl, rfl, r⟩ | exact ⟨rfl, r⟩ | exact r)
end LL
