/-! ===== the world as the constructors leave it ===== -/
def M0 : MM := (fun t _ k => if t = 4 then (if k < 2 then -1 else 0) else if t = 5 then (if k = 3 then -1 else 0) else if t = 9 then (if k < 24 then -1 else 0) else 0, fun _ _ _ => 0, fun _ _ _ => 0)
/-- where a cell stands in the order of its making -/
def sg (t i : Nat) : Nat := if t < 4 then t else if t = 4 then 4 + 3 * i else if t = 5 then 94 + i else if t = 6 then 4 + 3 * i + 1 else if t = 7 then 4 + 3 * i + 2 else 126 + t
def sgT (n : Nat) : Nat := if n < 4 then n else if n < 94 then (if (n - 4) % 3 = 0 then 4 else if (n - 4) % 3 = 1 then 6 else 7) else if n < 134 then 5 else n - 126
def sgI (n : Nat) : Nat := if n < 4 then 0 else if n < 94 then (n - 4) / 3 else if n < 134 then n - 94 else 0
theorem sg_ok : ∀ t, t < 24 → ∀ i, i < tCnt t → sgT (sg t i) = t ∧ sgI (sg t i) = i ∧ sg t i < 150 := by decide +kernel
theorem arrV_eq {cI : ClassId} {N : Nat} {f g : Nat → Value} (h : ∀ j, j < N → f j = g j) : arrV cI N f = arrV cI N g := by
  unfold arrV
  congr 1
  congr 1
  funext j
  exact h j.val j.isLt
theorem at_ref {D : va_G} {cl : List vw_C} {a n : Nat} {cA : ClassId} {f g : Nat → Option Nat} {H : Heap} (h : va_at D cl (a, .inl (cA, n, .inr (.inr (.inr (.inr f))))) H) (e : ∀ j, j < n → f j = g j) : va_at D cl (a, .inl (cA, n, .inr (.inr (.inr (.inr g))))) H := by
  have h1 : H[a]? = some (vp_cell cA (n, .inr (.inr (.inr (.inr f))))) := h
  show H[a]? = some (vp_cell cA (n, .inr (.inr (.inr (.inr g)))))
  rw [h1, vp_cell_q, vp_cell_q, arrV_eq (fun j hj => by rw [e j hj])]
def woF (f : Nat → Nat × va_E) (y : Nat) (cy : Nat → ClassId) (g : Nat → Nat) (u : Nat → Int32) (z n : Nat) : Nat × va_E := if n < 134 then f n else if n < 149 then moE y cy g u (n - 134) else (z, .inl (cy 2, 1, .inr (.inl (fun _ => 0))))
theorem fl_app (N K : Nat) (f g : Nat → Nat × va_E) : fl N f ++ fl K g = fl (N + K) (fun n => if n < N then f n else g (n - N)) := by
  refine List.ext_getElem? fun n => ?_
  have hN : (fl N f).length = N := by simp [fl]
  rcases Nat.lt_or_ge n N with hn | hn
  · rw [List.getElem?_append_left (by omega), fl_at hn, fl_at (by omega), if_pos hn]
  · rw [List.getElem?_append_right (by omega), hN]
    rcases Nat.lt_or_ge n (N + K) with hk | hk
    · rw [fl_at (by omega), fl_at hk, if_neg (by omega)]
    · unfold fl
      rw [List.getElem?_eq_none (by simp; omega), List.getElem?_eq_none (by simp; omega)]
theorem woF_list (f : Nat → Nat × va_E) (y : Nat) (cy : Nat → ClassId) (g : Nat → Nat) (u : Nat → Int32) (z : Nat) : (fl 134 f ++ fl 15 (moE y cy g u)) ++ [(z, .inl (cy 2, 1, .inr (.inl (fun _ => 0))))] = fl 150 (woF f y cy g u z) := by
  rw [fl_app, fl_push]
  refine fl_congr (fun n hn => ?_)
  unfold woF va_up
  dsimp only
  by_cases h1 : n < 134
  · rw [if_neg (by omega), if_pos h1, if_pos h1]
  · by_cases h2 : n < 149
    · rw [if_neg (by omega), if_neg h1, if_neg h1, if_pos h2]
    · rw [if_pos (by omega), if_neg h1, if_neg h2]
def gW (f : Nat → Nat × va_E) (y : Nat) (cy : Nat → ClassId) (g : Nat → Nat) (u : Nat → Int32) (z t i : Nat) : Nat := (woF f y cy g u z (sg t i)).1
set_option maxHeartbeats 4000000 in
set_option maxRecDepth 100000 in
theorem world_of {A : Nat → Prop} {cy dC : Nat → ClassId} {dI : Nat → Nat → Nat} {H : Heap} {f : Nat → Nat × va_E} {g : Nat → Nat} {u : Nat → Int32} {x y z : Nat} (hJ : JC x cy f 30 40) (hu : ∀ i, u i = if i < 24 then -1 else 0) (hP : va_P (dC, dI) mcl (fl 150 (woF f y cy g u z)) H) (hD : va_D A (fl 150 (woF f y cy g u z))) : ∃ G : Nat → Nat → Nat, G 0 0 = x ∧ G 8 0 = y ∧ G 23 0 = z ∧ GD A G ∧ va_P (dC, dI) mcl (wl G cy M0) H := by
  have hAt : ∀ n, n < 150 → va_at (dC, dI) mcl (woF f y cy g u z n) H := fun n hn => hP n _ (fl_at hn)
  have fF : ∀ n, n < 134 → woF f y cy g u z n = f n := fun n hn => by unfold woF; rw [if_pos hn]
  have hx : gW f y cy g u z 0 0 = x := by
    show (woF f y cy g u z 0).1 = x
    rw [fF 0 (by omega), hJ.1]
  refine ⟨gW f y cy g u z, hx, rfl, rfl, ⟨fun t i t' i' ht ht' e => ?_, fun t i ht => ?_⟩, fun k q hk => ?_⟩
  · obtain ⟨a1, a2, a3⟩ := sg_ok t (tLt ht) i ht
    obtain ⟨b1, b2, b3⟩ := sg_ok t' (tLt ht') i' ht'
    have e2 := hD.1 _ _ _ _ (fl_at a3) (fl_at b3) e
    exact ⟨a1.symm.trans ((congrArg sgT e2).trans b1), a2.symm.trans ((congrArg sgI e2).trans b2)⟩
  · exact hD.2 _ _ (fl_at (sg_ok t (tLt ht) i ht).2.2)
  · obtain ⟨k1, rfl⟩ := wl_in hk
    have hi := (tBack k k1).1
    generalize tTag k = t at hi ⊢
    generalize tIdx k = i at hi ⊢
    match t, hi with
    | 0, hi =>
      have hi' : i < 1 := hi
      have hi0 : i = 0 := by omega
      subst hi0
      have h := hAt 0 (by omega)
      rw [fF 0 (by omega), hJ.1] at h
      have e0 : (gW f y cy g u z 0 0) = x := hx
      rw [e0]
      exact h
    | 1, hi =>
      have hi' : i < 1 := hi
      have hi0 : i = 0 := by omega
      subst hi0
      have h := hAt 1 (by omega)
      rw [fF 1 (by omega)] at h
      have e1 : f 1 = ((f 1).1, (f 1).2) := rfl
      rw [e1, hJ.2.1] at h
      have e0 : (gW f y cy g u z 1 0) = (f 1).1 := congrArg Prod.fst (fF 1 (by omega))
      rw [e0]
      refine at_ref h (fun j hj => ?_)
      have hj' : j < 24 := hj
      rw [if_pos (by omega)]
      exact congrArg some (congrArg Prod.fst (fF (4 + 3 * j) (by omega))).symm
    | 2, hi =>
      have hi' : i < 1 := hi
      have hi0 : i = 0 := by omega
      subst hi0
      have h := hAt 2 (by omega)
      rw [fF 2 (by omega)] at h
      have e1 : f 2 = ((f 2).1, (f 2).2) := rfl
      rw [e1, hJ.2.2.1] at h
      have e0 : (gW f y cy g u z 2 0) = (f 2).1 := congrArg Prod.fst (fF 2 (by omega))
      rw [e0]
      refine at_ref h (fun j hj => ?_)
      have hj' : j < 6 := hj
      rw [if_pos (by omega)]
      exact congrArg some (congrArg Prod.fst (fF (4 + 3 * (24 + j)) (by omega))).symm
    | 3, hi =>
      have hi' : i < 1 := hi
      have hi0 : i = 0 := by omega
      subst hi0
      have h := hAt 3 (by omega)
      rw [fF 3 (by omega)] at h
      have e1 : f 3 = ((f 3).1, (f 3).2) := rfl
      rw [e1, hJ.2.2.2.1] at h
      have e0 : (gW f y cy g u z 3 0) = (f 3).1 := congrArg Prod.fst (fF 3 (by omega))
      rw [e0]
      refine at_ref h (fun j hj => ?_)
      have hj' : j < 40 := hj
      rw [if_pos (by omega)]
      exact congrArg some (congrArg Prod.fst (fF (94 + j) (by omega))).symm
    | 4, hi =>
      have hi' : i < 30 := hi
      have h := hAt (4 + 3 * i) (by omega)
      rw [fF _ (by omega)] at h
      have e1 : f (4 + 3 * i) = ((f (4 + 3 * i)).1, (f (4 + 3 * i)).2) := rfl
      rw [e1, (hJ.2.2.2.2.1 i hi').1] at h
      have e0 : (gW f y cy g u z 4 i) = (f (4 + 3 * i)).1 := congrArg Prod.fst (fF (4 + 3 * i) (by omega))
      have e6 : (gW f y cy g u z 6 i) = (f (4 + 3 * i + 1)).1 := congrArg Prod.fst (fF (4 + 3 * i + 1) (by omega))
      have e7 : (gW f y cy g u z 7 i) = (f (4 + 3 * i + 2)).1 := congrArg Prod.fst (fF (4 + 3 * i + 2) (by omega))
      show va_at (dC, dI) mcl ((gW f y cy g u z 4 i), .inr (0, [.int (-1), .int (-1), .ref ((gW f y cy g u z 6 i)), .ref ((gW f y cy g u z 7 i))])) H
      rw [e0, e6, e7]
      exact h
    | 5, hi =>
      have hi' : i < 40 := hi
      have h := hAt (94 + i) (by omega)
      rw [fF _ (by omega)] at h
      have e1 : f (94 + i) = ((f (94 + i)).1, (f (94 + i)).2) := rfl
      rw [e1, hJ.2.2.2.2.2 i hi'] at h
      have e0 : (gW f y cy g u z 5 i) = (f (94 + i)).1 := congrArg Prod.fst (fF (94 + i) (by omega))
      rw [e0]
      exact h
    | 6, hi =>
      have hi' : i < 30 := hi
      have h := hAt (4 + 3 * i + 1) (by omega)
      rw [fF _ (by omega)] at h
      have e1 : f (4 + 3 * i + 1) = ((f (4 + 3 * i + 1)).1, (f (4 + 3 * i + 1)).2) := rfl
      rw [e1, (hJ.2.2.2.2.1 i hi').2.1] at h
      have e0 : (gW f y cy g u z 6 i) = (f (4 + 3 * i + 1)).1 := congrArg Prod.fst (fF (4 + 3 * i + 1) (by omega))
      rw [e0]
      exact h
    | 7, hi =>
      have hi' : i < 30 := hi
      have h := hAt (4 + 3 * i + 2) (by omega)
      rw [fF _ (by omega)] at h
      have e1 : f (4 + 3 * i + 2) = ((f (4 + 3 * i + 2)).1, (f (4 + 3 * i + 2)).2) := rfl
      rw [e1, (hJ.2.2.2.2.1 i hi').2.2] at h
      have e0 : (gW f y cy g u z 7 i) = (f (4 + 3 * i + 2)).1 := congrArg Prod.fst (fF (4 + 3 * i + 2) (by omega))
      rw [e0]
      exact h
    | 8, hi =>
      have hi' : i < 1 := hi
      have hi0 : i = 0 := by omega
      subst hi0
      exact hAt 134 (by omega)
    | 9, hi =>
      have hi' : i < 1 := hi
      have hi0 : i = 0 := by omega
      subst hi0
      have h := hAt 135 (by omega)
      have e1 : u = M0.1 9 0 := by
        funext k
        exact hu k
      rw [e1] at h
      exact h
    | 10, hi =>
      have hi' : i < 1 := hi
      have hi0 : i = 0 := by omega
      subst hi0
      exact hAt 136 (by omega)
    | 11, hi =>
      have hi' : i < 1 := hi
      have hi0 : i = 0 := by omega
      subst hi0
      exact hAt 137 (by omega)
    | 12, hi =>
      have hi' : i < 1 := hi
      have hi0 : i = 0 := by omega
      subst hi0
      exact hAt 138 (by omega)
    | 13, hi =>
      have hi' : i < 1 := hi
      have hi0 : i = 0 := by omega
      subst hi0
      exact hAt 139 (by omega)
    | 14, hi =>
      have hi' : i < 1 := hi
      have hi0 : i = 0 := by omega
      subst hi0
      exact hAt 140 (by omega)
    | 15, hi =>
      have hi' : i < 1 := hi
      have hi0 : i = 0 := by omega
      subst hi0
      exact hAt 141 (by omega)
    | 16, hi =>
      have hi' : i < 1 := hi
      have hi0 : i = 0 := by omega
      subst hi0
      exact hAt 142 (by omega)
    | 17, hi =>
      have hi' : i < 1 := hi
      have hi0 : i = 0 := by omega
      subst hi0
      exact hAt 143 (by omega)
    | 18, hi =>
      have hi' : i < 1 := hi
      have hi0 : i = 0 := by omega
      subst hi0
      exact hAt 144 (by omega)
    | 19, hi =>
      have hi' : i < 1 := hi
      have hi0 : i = 0 := by omega
      subst hi0
      exact hAt 145 (by omega)
    | 20, hi =>
      have hi' : i < 1 := hi
      have hi0 : i = 0 := by omega
      subst hi0
      exact hAt 146 (by omega)
    | 21, hi =>
      have hi' : i < 1 := hi
      have hi0 : i = 0 := by omega
      subst hi0
      exact hAt 147 (by omega)
    | 22, hi =>
      have hi' : i < 1 := hi
      have hi0 : i = 0 := by omega
      subst hi0
      exact hAt 148 (by omega)
    | 23, hi =>
      have hi' : i < 1 := hi
      have hi0 : i = 0 := by omega
      subst hi0
      exact hAt 149 (by omega)
    | t + 24, hi => exact absurd (tLt hi) (by omega)
/-- at the start the two sides agree -/
theorem RR_0 : RR M0 M0 := by
  have nn : ∀ i : Nat, FP.Core.val64 ((fun _ => 0 : Nat → UInt64) i) ≠ .nan := fun _ => nn_0
  refine ⟨fun p hp => ⟨?_, .inl rfl, .inl ⟨rfl, rfl, rfl⟩⟩, ⟨rfl, ⟨0, by decide, rfl⟩, fun j hj => ⟨rfl, fun h => ?_, fun _ => rfl⟩⟩, rfl, ⟨fun _ _ => nn_0, fun _ => nn_0, fun _ => nn_0⟩, fun p h1 h2 => .inl rfl⟩
  · show (if p < 24 then (-1 : Int32) else 0) = -1
    rw [if_pos hp]
  · exact absurd h (nI_pos (n := j) (by omega))
