/-! ===== get, on both sides; the law's own get ===== -/
theorem r_get {M N : MM} (r : RR M N) (p i : Int32) : x_gc M p i = m_gc N p i ∧ (x_gc M p i = 0 → xT M (cl p) (cl i) = mTel N (cl p) (cl i)) := by
  unfold x_gc m_gc
  by_cases h : isPl p = false
  · rw [if_pos h, if_pos h]; exact ⟨rfl, fun q => absurd q (by decide)⟩
  · have c := r.1 (cl p) (pl_lt h)
    rw [if_neg h, if_neg h]
    by_cases e : M.1 4 (cl p) 1 = -1
    · rw [if_pos e, if_pos ((none_eq c).mpr e)]; exact ⟨rfl, fun q => absurd q (by decide)⟩
    · rw [if_neg e, if_neg (fun e2 => e ((none_eq c).mp e2))]
      obtain ⟨h0, m, hm, g1, g2, g3, g4⟩ := live_of c e
      have eh : mHas N (cl p) i = inC M (cl p) i := by
        unfold mHas inC
        rw [g1, g2]
      rw [eh]
      by_cases e2 : inC M (cl p) i = false
      · rw [if_pos e2, if_pos e2]; exact ⟨rfl, fun q => absurd q (by decide)⟩
      · have e3 : inC M (cl p) i = true := by simpa using e2
        have hi := inC_lt hm g1 e3
        rw [if_neg e2, if_neg e2, c.1]
        by_cases k : M.1 4 (cl p) 0 < 7
        · rw [if_neg (fun q => q.1 k), if_neg (fun q => q.1 k)]
          exact ⟨rfl, fun _ => tel_eq c g4 hi⟩
        · obtain ⟨l1, l2, l3, l4⟩ := g4 (cl i) hi
          rw [l2 (notR k)]
          rcases l4 k with q | ⟨j, j1, j2, j3⟩
          · have d1 : (M.2.1 6 (cl p) (cl i)).toInt32 = -1 := by rw [q]; decide
            have d2 : lg_cmp (M.2.1 6 (cl p) (cl i)) 0 < 0 := by rw [q]; decide
            rw [if_pos ⟨k, d1⟩, if_pos ⟨k, d2⟩]
            exact ⟨rfl, fun q => absurd q (by decide)⟩
          · have d1 : ¬ (M.2.1 6 (cl p) (cl i)).toInt32 = -1 := by rw [j3, lN_i]; exact nI_n1 (by omega)
            have d2 : ¬ lg_cmp (M.2.1 6 (cl p) (cl i)) 0 < 0 := by rw [j3, ← nI_64 j1, long_lt0]; exact nI_pos (by omega)
            rw [if_neg (fun q => d1 q.2), if_neg (fun q => d2 q.2)]
            exact ⟨rfl, fun _ => tel_eq c g4 hi⟩
abbrev hhL : List (Nat × Nat × Nat × Nat) := [(0, 9, 12, 13), (0, 9, 16, 15)]
def wsG : List Cond := .codeWith yL_get cL_get 5 (some .int) hhL :: lw_all
theorem qG : Cond.codeWith yL_get cL_get 5 (some .int) hhL ∈ lw_all := lw_mem (i := 351) (by decide +kernel) rfl
abbrev rmL_get : Room := { frames := 10, cells := 1, slots := 8, locals := 500 }
/-- what the law's get leaves -/
def g_M (M : MM) (a b : Int32) : MM := if x_gc M a b = 0 then sL M 23 0 0 (xT M (cl a) (cl b)) else M
def PCH (G : Nat → Nat → Nat) (cy : Nat → ClassId) (dC : Nat → ClassId) (dI : Nat → Nat → Nat) (as : List AV) (M : MM) : Array Value → State → Prop := va_Pc (as.map (cv G)) (fun U => (va_P (dC, dI) mcl (wl G cy M) U.heap ∧ va_K (dC, dI) mcl (tys cy) U ∧ NW U ∧ NG U ∧ vx_Zq Bundle.tN "UNASSIGNED_STACK" Bundle.steD (AW G) U U.heap ∧ vx_Zq Bundle.tN "SUPPRESSED_SENTINEL" Bundle.listD (AW G) U U.heap) ∧ va_Nc nAI Bundle.nN U)
section PG
variable {G : Nat → Nat → Nat} {cy dC : Nat → ClassId} {dI : Nat → Nat → Nat}
theorem PCG_blind (as : List AV) (M : MM) : FrameBlind (PCG G cy dC dI as M) := fun a U g mk q => by
  obtain ⟨q0, qP, qK, qN, qG, q1, q2⟩ := q
  exact ⟨q0, qP, va_K.moved (u := U) (U := U.calling g mk a) (Vm.Alike.refl U.vm) qK, NW.same (u := U) (U := U.calling g mk a) rfl qN, NG.same (u := U) (U := U.calling g mk a) rfl qG, vx_Zq.moved (u := U) (U := U.calling g mk a) (Vm.Alike.refl U.vm) q1, vx_Zq.moved (u := U) (U := U.calling g mk a) (Vm.Alike.refl U.vm) q2⟩
theorem PCH_blind (as : List AV) (M : MM) : FrameBlind (PCH G cy dC dI as M) := fun a U g mk q => by
  obtain ⟨q0, ⟨qP, qK, qN, qG, q1, q2⟩, q3⟩ := q
  exact ⟨q0, ⟨qP, va_K.moved (u := U) (U := U.calling g mk a) (Vm.Alike.refl U.vm) qK, NW.same (u := U) (U := U.calling g mk a) rfl qN, NG.same (u := U) (U := U.calling g mk a) rfl qG, vx_Zq.moved (u := U) (U := U.calling g mk a) (Vm.Alike.refl U.vm) q1, vx_Zq.moved (u := U) (U := U.calling g mk a) (Vm.Alike.refl U.vm) q2⟩, va_Nc.moved (u := U) (U := U.calling g mk a) (Vm.Alike.refl U.vm) q3⟩
end PG
set_option maxHeartbeats 4000000 in
set_option maxRecDepth 100000 in
theorem ctL_get (l : Launch) (hl : l.stackTraces = false) (G : Nat → Nat → Nat) (cy dC : Nat → ClassId) (dI : Nat → Nat → Nat) (hG : GJ G) (a b : Int32) (M : MM) (hX : XOK M) : Met l yL_get wsG rmL_get (PCH G cy dC dI [.inr (0, 0), .inl (.int a), .inl (.int b), .inr (23, 0)] M) (QI G cy dC dI (fun o M' => o = some (.inl (.int (x_gc M a b))) ∧ M' = g_M M a b)) 1 8 (AW G) := by
  refine va_MetW (cc := cL_get) (maxL := 5) (ret := some .int) (by decide) rfl ?_
  intro p e s m args below meth c s₁ B hml hv
  obtain ⟨rfl, ⟨hP, hK, hN, hNG, hU, hSn⟩, hNc⟩ := hv
  have hts0 := atoms_spec (ws := wsG) B.pre
  have hts : ∀ w ∈ lw_all, w.before _ s = true := fun w hw => hts0 w (List.mem_cons_of_mem _ hw)
  have htab := vx_table (x := yL_get) B (hts0 _ List.mem_cons_self)
  have hF : FX p m c cL_get 5 RL s (([.inr (0, 0), .inl (.int a), .inl (.int b), .inr (23, 0)] : List AV).map (cv G)).toArray (AW G) G cy dC dI := ⟨B.exec, B.bytes, hml, findClass_of_methodNamed B.named, hts, hK, hN, AW_GD hG⟩
  have hown : s.vm.findClass RL = some m.cls := findClass_of_methodNamed B.named
  have hlk := B.notSynchronized
  have hx := B.exec
  have hb := B.bytes
  have hr := B.returns
  have hl0 := lv_entry (([.inr (0, 0), .inl (.int a), .inl (.int b), .inr (23, 0)] : List AV).map (cv G)) (n := 5) (by rw [aLen]; exact Nat.le_of_ble_eq_true rfl)
  rw [lg_entry_eq]
  generalize (lg_sl (([.inr (0, 0), .inl (.int a), .inl (.int b), .inr (23, 0)] : List AV).map (cv G)) ++ List.replicate (5 - (lg_sl (([.inr (0, 0), .inl (.int a), .inl (.int b), .inr (23, 0)] : List AV).map (cv G))).length) Slot.unset).toArray = ls at hl0 ⊢
  have hl0 : lv_has ls 5 [(0, .ref (G 0 0)), (1, .int a), (2, .int b), (3, .ref (G 23 0))] := hl0
  have hS : va_S (AW G) s.heap s.heap [] := va_S.rf
  refine lv_aload_n hx hb dL_get_0 rfl (lv_at hl0 3 rfl) ?_
  refine lv_iconst (v := 0) hx hb dL_get_1 (by decide) ?_
  refine lv_aload_n hx hb dL_get_2 rfl (lv_at hl0 0 rfl) ?_
  refine lv_iload_n hx hb dL_get_3 rfl (lv_at hl0 1 rfl) ?_
  refine lv_iload_n hx hb dL_get_4 rfl (lv_at hl0 2 rfl) ?_
  have hgd : GoodIn lw_all (wsV RL 7 RX2 yX2_get (ws_ yX2_get cX2_get 4 (some .long))) := lw_V q446 q447 q448 q1 q449
  have hrc : ∃ cell : Cell, s.heap[G 0 0]? = some cell ∧ cell.vm.isStatics = false ∧ s.vm.findClass RX2 = some cell.cls := va_recv hK hP (ci := 2) (q := (RX2, TX2, 5)) rfl (q0 := tOff 0 + 0) (wl_at (by decide))
  refine vx_calll (vx_runV (As := [.int a, .int b]) (rest := [.int 0, .ref (G 23 0)]) (b := G 0 0) ⟨hx, hb, hml, hown, hts⟩ (ctX2_get l hl G cy dC dI hG a b M hX) (cwV 2 hts hgd rfl rfl rfl (by decide +kernel) ⟨Nat.le_of_ble_eq_true rfl, Nat.le_of_ble_eq_true rfl⟩) ⟨PCG_blind _ _, hrc, fun U hU2 hW => ⟨rfl, by rw [hU2]; exact hP, va_K.moved hW.alike hK, NW.warm hW hN, NG.warm hW hNG, by rw [hU2]; exact vx_Zq.moved hW.alike hU, by rw [hU2]; exact vx_Zq.moved hW.alike hSn⟩⟩ rfl rfl hl0.1 rfl (lv_room (Nat.le_of_ble_eq_true rfl)) dL_get_5 ⟨Nat.le_of_ble_eq_true rfl, Nat.le_of_ble_eq_true rfl⟩) hS (fun q _ hq => hq) (fun q hq => hq) (fun q _ hq => hq) (fun E ce q9 u t H1 locs1 ht hvm hpx hBX hz hk hS1 hce hcv hcl => ?_) (fun r u t H1 locs1 ht hvm hpost hB hz hk hS1 => ?_)
  · obtain ⟨hE, hP1⟩ := hBX
    rw [ht, hpx] at hP1
    refine vx_widen (k := 1) (n := 8) (by decide) (by decide) ?_
    rcases hE with ⟨rfl, hg⟩ | ⟨rfl, hg⟩
    · refine vx_catch (own := RL) (name := Bundle.nN) hown [] ⟨0, 9, 12, 13⟩ [⟨0, 9, 16, 15⟩] htab (fun z hz => nomatch hz) (by decide) (by decide) (hts _ q333) (va_Nw.use (ngL_tab _ (by decide +kernel)) (hNG (.castable Bundle.nN Bundle.nN) (by decide +kernel))) hce hcv hcl ?_
      refine lv_astore (lv' := [(4, .ref q9), (0, .ref (G 0 0)), (1, .int a), (2, .int b), (3, .ref (G 23 0))]) hx hb dL_get_12 hl0 (by decide) rfl (fun ls hl => ?_)
      refine lv_iconst (v := 1) hx hb dL_get_14 (by decide) ?_
      exact W.iret hx hb hr (fun t ht hW => ⟨⟨1, M, rfl, ⟨by rw [hg], by unfold g_M; rw [hg, if_neg (by decide)]⟩, by show va_P _ _ _ t.heap; rw [ht]; exact hP1⟩, hS1.F ht⟩) hS1.2.2 dL_get_15 hlk
    · refine vx_catch (own := RL) (name := nAI) hown [⟨0, 9, 12, 13⟩] ⟨0, 9, 16, 15⟩ [] htab (fun z hz => Or.inr ?_) (by decide) (by decide) (hts _ q413) (va_Nw.use (ngL_tab _ (by decide +kernel)) (hNG (.castable nAI nAI) (by decide +kernel))) hce hcv hcl ?_
      · rw [List.mem_singleton.mp hz]
        exact ⟨by decide, Bundle.nN, hts _ q333, hNc⟩
      refine lv_astore (lv' := [(4, .ref q9), (0, .ref (G 0 0)), (1, .int a), (2, .int b), (3, .ref (G 23 0))]) hx hb dL_get_16 hl0 (by decide) rfl (fun ls hl => ?_)
      refine lv_iconst (v := 2) hx hb dL_get_18 (by decide) ?_
      exact W.iret hx hb hr (fun t ht hW => ⟨⟨2, M, rfl, ⟨by rw [hg], by unfold g_M; rw [hg, if_neg (by decide)]⟩, by show va_P _ _ _ t.heap; rw [ht]; exact hP1⟩, hS1.F ht⟩) hS1.2.2 dL_get_19 hlk
  · obtain ⟨e1, e2, hg⟩ := hpost
    have e1 : r = xT M (cl a) (cl b) := by
      have := Option.some.inj e1
      injection this with h
      injection h
    have hP1 : va_P (dC, dI) mcl (wl G cy M) H1 := by
      rw [← ht, ← e2]; exact hB
    rw [e1]
    refine W.widen (k := 1) (n := 8) (by decide) (by decide) ?_
    have h9 : SO p l e rmL_get s m (([.inr (0, 0), .inl (.int a), .inl (.int b), .inr (23, 0)] : List AV).map (cv G)).toArray below meth c 1 8 (MQ below (QI G cy dC dI (fun o M' => o = some (.inl (.int (x_gc M a b))) ∧ M' = g_M M a b)) (([.inr (0, 0), .inl (.int a), .inl (.int b), .inr (23, 0)] : List AV).map (cv G)).toArray s 1 8 (AW G)) 5 (AW G) G cy dC dI 8 (i_last (i_push (.inl (.int 0)) (i_iret (fun o M' => o = some (.inl (.int (x_gc M a b))) ∧ M' = g_M M a b)))) := s_last hF dL_get_8 (s_goto hF dL_get_9 (by decide) (s_iconst hF dL_get_20 (by decide) (s_iret hF dL_get_21 hr hlk)))
    refine h9 [(0, .inr (0, 0)), (1, .inl (.int a)), (2, .inl (.int b)), (3, .inr (23, 0))] [.inl (.long (xT M (cl a) (cl b))), .inl (.int 0), .inr (23, 0)] M ⟨rfl, by decide, (show vp_in (nI 0) 1 from vp_in_nI (by decide) (by decide)), ?_⟩ H1 locs1 ls hP1 hS1 hl0
    refine ⟨by rw [hg], ?_⟩
    unfold g_M
    rw [hg, if_pos rfl]
    rfl
