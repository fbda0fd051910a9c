/-! ===== THE PURE MACHINE: values (references by kind and number), rows of numbers by kind, number and place ===== -/
abbrev AV : Type := Value ⊕ (Nat × Nat)
abbrev MM : Type := (Nat → Nat → Nat → Int32) × (Nat → Nat → Nat → Int64) × (Nat → Nat → Nat → UInt64)
abbrev LV : Type := List (Nat × AV)
abbrev PT : Type := LV → List AV → MM → Prop
abbrev SP : Type := List AV → MM → (Option AV → MM → Prop) → Prop
def cv (G : Nat → Nat → Nat) : AV → Value
  | .inl v => v
  | .inr q => .ref (G q.1 q.2)
def sI (M : MM) (t i k : Nat) (v : Int32) : MM := (fun t' i' k' => if t' = t ∧ i' = i ∧ k' = k then v else M.1 t' i' k', M.2)
def sL (M : MM) (t i k : Nat) (v : Int64) : MM := (M.1, fun t' i' k' => if t' = t ∧ i' = i ∧ k' = k then v else M.2.1 t' i' k', M.2.2)
def sD (M : MM) (t i k : Nat) (v : UInt64) : MM := (M.1, M.2.1, fun t' i' k' => if t' = t ∧ i' = i ∧ k' = k then v else M.2.2 t' i' k')
/-- a whole row of longs, of doubles -/
def rL (M : MM) (t i : Nat) (f : Nat → Int64) : MM := (M.1, fun t' i' => if t' = t ∧ i' = i then f else M.2.1 t' i', M.2.2)
def rD (M : MM) (t i : Nat) (f : Nat → UInt64) : MM := (M.1, M.2.1, fun t' i' => if t' = t ∧ i' = i then f else M.2.2 t' i')
/-- how many there are of each kind of cell; where they stand in the world's list -/
def tCnt : Nat → Nat
  | 0 => 1 | 1 => 1 | 2 => 1 | 3 => 1 | 4 => 30 | 5 => 40 | 6 => 30 | 7 => 30 | 8 => 1 | 9 => 1 | 10 => 1 | 11 => 1 | 12 => 1 | 13 => 1 | 14 => 1 | 15 => 1 | 16 => 1 | 17 => 1 | 18 => 1 | 19 => 1 | 20 => 1 | 21 => 1 | 22 => 1 | 23 => 1 | _ => 0
def tOff : Nat → Nat
  | 0 => 0 | 1 => 1 | 2 => 2 | 3 => 3 | 4 => 4 | 5 => 34 | 6 => 74 | 7 => 104 | n => 126 + n
def tTag (n : Nat) : Nat := if n < 4 then n else if n < 34 then 4 else if n < 74 then 5 else if n < 104 then 6 else if n < 134 then 7 else n - 126
def tIdx (n : Nat) : Nat := if n < 4 then 0 else if n < 34 then n - 4 else if n < 74 then n - 34 else if n < 104 then n - 74 else if n < 134 then n - 104 else 0
/-- arrays: 0 ints, 1 booleans, 2 longs, 3 doubles, 4 columns, 5 parts; their lengths -/
def aK : Nat → Nat
  | 1 => 4 | 2 => 4 | 3 => 5 | 6 => 2 | 7 => 3 | 9 => 0 | 10 => 0 | 11 => 1 | 12 => 2 | 13 => 3 | 14 => 0 | 15 => 0 | 16 => 1 | 17 => 2 | 18 => 3 | 19 => 0 | 20 => 0 | 21 => 0 | 22 => 0 | 23 => 2 | _ => 9
def aN : Nat → Nat
  | 1 => 24 | 2 => 6 | 3 => 40 | 6 => 40 | 7 => 40 | 9 => 24 | 10 => 24 | 11 => 24 | 12 => 960 | 13 => 960 | 14 => 6 | 15 => 6 | 16 => 6 | 17 => 240 | 18 => 240 | 19 => 40 | 20 => 40 | 21 => 40 | 22 => 40 | 23 => 1 | _ => 0
/-- what an array of references holds: kind and number -/
def aR : Nat → Nat → Nat × Nat
  | 1, j => (4, j) | 2, j => (4, 24 + j) | 3, j => (5, j) | _, _ => (0, 0)
abbrev mcl : List vw_C := [(RX0, TX0, 4), (RX1, TX1, 4), (RX2, TX2, 5), (RX3, TX3, 17)]
abbrev tys (cy : Nat → ClassId) : List (ClassId × FieldType) := [(cy 0, .int), (cy 1, .boolean), (cy 2, .long), (cy 3, .double), (cy 4, .object "MappingMoves$Column"), (cy 5, .object "MappingMoves$Part")]
/-- a cell by its kind and number, its own rows of numbers -/
def cR (G : Nat → Nat → Nat) (cy : Nat → ClassId) (t i : Nat) (f : Nat → Int32) (g : Nat → Int64) (h : Nat → UInt64) : va_E :=
  if t = 0 then .inr (2, [.ref (G 1 0), .ref (G 2 0), .ref (G 3 0), .int (f 3), .int (f 4)])
  else if t = 4 then .inr (0, [.int (f 0), .int (f 1), .ref (G 6 i), .ref (G 7 i)])
  else if t = 5 then .inr (1, [.int (f 0), .int (f 1), .int (f 2), .int (f 3)])
  else if t = 8 then .inr (3, [.int (f 0), .ref (G 9 0), .ref (G 10 0), .ref (G 11 0), .ref (G 12 0), .ref (G 13 0), .ref (G 14 0), .ref (G 15 0), .ref (G 16 0), .ref (G 17 0), .ref (G 18 0), .int (f 11), .ref (G 19 0), .ref (G 20 0), .ref (G 21 0), .ref (G 22 0), .int (f 16)])
  else if aK t = 0 then .inl (cy 0, aN t, .inl f)
  else if aK t = 1 then .inl (cy 1, aN t, .inl f)
  else if aK t = 2 then .inl (cy 2, aN t, .inr (.inl g))
  else if aK t = 3 then .inl (cy 3, aN t, .inr (.inr (.inr (.inl h))))
  else .inl (cy (aK t), aN t, .inr (.inr (.inr (.inr (fun j => some (G (aR t j).1 (aR t j).2))))))
abbrev cE (G : Nat → Nat → Nat) (cy : Nat → ClassId) (M : MM) (t i : Nat) : va_E := cR G cy t i (M.1 t i) (M.2.1 t i) (M.2.2 t i)
def wl (G : Nat → Nat → Nat) (cy : Nat → ClassId) (M : MM) : va_W := (List.range 150).map (fun n => (G (tTag n) (tIdx n), cE G cy M (tTag n) (tIdx n)))
/-- the references apart -/
def GJ (G : Nat → Nat → Nat) : Prop := ∀ t i t' i', i < tCnt t → i' < tCnt t' → G t i = G t' i' → t = t' ∧ i = i'
def AW (G : Nat → Nat → Nat) : Nat → Prop := fun q => ∃ t i, i < tCnt t ∧ q = G t i
def GD (A : Nat → Prop) (G : Nat → Nat → Nat) : Prop := GJ G ∧ ∀ t i, i < tCnt t → A (G t i)
theorem tPos : ∀ t, t < 24 → ∀ i, i < tCnt t → tTag (tOff t + i) = t ∧ tIdx (tOff t + i) = i ∧ tOff t + i < 150 := by decide +kernel
theorem tBack : ∀ n, n < 150 → tIdx n < tCnt (tTag n) ∧ tOff (tTag n) + tIdx n = n := by decide +kernel
theorem tLt {t i : Nat} (h : i < tCnt t) : t < 24 := by
  rcases Nat.lt_or_ge t 24 with q | q
  · exact q
  · exfalso
    have : tCnt t = 0 := by
      unfold tCnt
      split <;> first | rfl | omega
    omega
theorem wl_at {G : Nat → Nat → Nat} {cy : Nat → ClassId} {M : MM} {t i : Nat} (h : i < tCnt t) : (wl G cy M)[tOff t + i]? = some (G t i, cR G cy t i (M.1 t i) (M.2.1 t i) (M.2.2 t i)) := by
  obtain ⟨h1, h2, h3⟩ := tPos t (tLt h) i h
  unfold wl
  rw [List.getElem?_map, List.getElem?_range h3, Option.map_some, h1, h2]
theorem wl_in {G : Nat → Nat → Nat} {cy : Nat → ClassId} {M : MM} {n : Nat} {q : Nat × va_E} (h : (wl G cy M)[n]? = some q) : n < 150 ∧ q = (G (tTag n) (tIdx n), cE G cy M (tTag n) (tIdx n)) := by
  unfold wl at h
  rw [List.getElem?_map] at h
  rcases Nat.lt_or_ge n 150 with hn | hn
  · rw [List.getElem?_range hn, Option.map_some] at h
    exact ⟨hn, (Option.some.inj h).symm⟩
  · rw [List.getElem?_eq_none (by simpa using hn)] at h
    cases h
theorem wl_D {A : Nat → Prop} {G : Nat → Nat → Nat} (hG : GD A G) (cy : Nat → ClassId) (M : MM) : va_D A (wl G cy M) := by
  refine ⟨fun i j p q hi hj hpq => ?_, fun k q hk => ?_⟩
  · obtain ⟨i1, rfl⟩ := wl_in hi
    obtain ⟨j1, rfl⟩ := wl_in hj
    obtain ⟨a1, a2⟩ := tBack i i1
    obtain ⟨b1, b2⟩ := tBack j j1
    obtain ⟨e1, e2⟩ := hG.1 _ _ _ _ a1 b1 hpq
    rw [← a2, ← b2, e1, e2]
  · obtain ⟨k1, rfl⟩ := wl_in hk
    exact hG.2 _ _ (tBack k k1).1
/-- one cell's rows have changed: that cell of the list -/
theorem wl_set {G : Nat → Nat → Nat} {cy : Nat → ClassId} {M M' : MM} {t i : Nat} {e : va_E} (h : i < tCnt t) (he : cE G cy M' t i = e) (hI : ∀ t' i', ¬ (t' = t ∧ i' = i) → M'.1 t' i' = M.1 t' i') (hL : ∀ t' i', ¬ (t' = t ∧ i' = i) → M'.2.1 t' i' = M.2.1 t' i') (hD : ∀ t' i', ¬ (t' = t ∧ i' = i) → M'.2.2 t' i' = M.2.2 t' i') : (wl G cy M).set (tOff t + i) (G t i, e) = wl G cy M' := by
  subst he
  obtain ⟨h1, h2, h3⟩ := tPos t (tLt h) i h
  refine List.ext_getElem? fun n => ?_
  rw [List.getElem?_set]
  by_cases e : tOff t + i = n
  · rw [if_pos e, if_pos (by simp [wl]; omega), ← e, wl_at h]
  · rw [if_neg e]
    unfold wl
    rw [List.getElem?_map, List.getElem?_map]
    rcases Nat.lt_or_ge n 150 with hn | hn
    · rw [List.getElem?_range hn, Option.map_some, Option.map_some]
      have hne : ¬ (tTag n = t ∧ tIdx n = i) := fun q => e (by rw [← (tBack n hn).2, q.1, q.2])
      rw [show cE G cy M (tTag n) (tIdx n) = cE G cy M' (tTag n) (tIdx n) by unfold cE; rw [hI _ _ hne, hL _ _ hne, hD _ _ hne]]
    · rw [List.getElem?_eq_none (by simpa using hn)]
      rfl
/-- the words of private members of nest mates, as the methods of MappingMoves use them -/
abbrev nwL : List Cond := [.fieldLinkNest RX2 57 "MappingMoves$Column" "kind" "I" "MappingMoves", .fieldLinkNest RX2 45 "MappingMoves$Column" "cells" "I" "MappingMoves", .fieldLinkNest RX2 123 "MappingMoves$Part" "sort" "I" "MappingMoves", .fieldLinkNest RX2 113 "MappingMoves$Part" "laid" "I" "MappingMoves", .fieldLinkNest RX2 126 "MappingMoves$Part" "code" "I" "MappingMoves"]
def NW (U : State) : Prop := ∀ w ∈ nwL, va_Nw w U
theorem nwL_tab : ∀ w ∈ nwL, w.onTables = true := by decide +kernel
theorem NW.same {u U : State} (h : u.vm = U.vm) (hN : NW u) : NW U := fun w hw => va_Nw.same (nwL_tab w hw) h (hN w hw)
theorem NW.warm {u U : State} (h : u.WarmedH U.vm) (hN : NW u) : NW U := fun w hw => by
  have h0 := hN w hw
  simp only [nwL, List.mem_cons, List.not_mem_nil, or_false] at hw
  rcases hw with rfl | rfl | rfl | rfl | rfl <;> exact va_Nw.warmF h h0
def ws_ (y : MethodName) (cc : ByteArray) (n : Nat) (ret : Option FieldType) : List Cond := .code y cc n ret :: lw_all
theorem lw_good : ∀ w ∈ lw_all, goodWord w = true := fun w h => (List.mem_filter.mp h).2
theorem lw_sub {y : MethodName} {cc : ByteArray} {n : Nat} {ret : Option FieldType} (h : Cond.code y cc n ret ∈ lw_all) : GoodIn lw_all (ws_ y cc n ret) := fun w hw => by
  rcases List.mem_cons.mp hw with rfl | hw
  · exact ⟨h, good_of_word (lw_good _ h)⟩
  · exact ⟨hw, good_of_word (lw_good _ hw)⟩
theorem lw_V {own C : String} {idx : Nat} {y : MethodName} {cc : ByteArray} {n : Nat} {ret : Option FieldType} (h1 : Cond.methodLink own idx y ∈ lw_all) (h2 : Cond.instanceMethod y ∈ lw_all) (h3 : Cond.selects C y y ∈ lw_all) (h4 : Cond.initialized C ∈ lw_all) (h5 : Cond.code y cc n ret ∈ lw_all) : GoodIn lw_all (wsV own idx C y (ws_ y cc n ret)) := fun w hw => by
  rcases List.mem_append.mp hw with hw | hw
  · simp only [List.mem_cons, List.not_mem_nil, or_false] at hw
    have : w ∈ lw_all := by rcases hw with rfl | rfl | rfl | rfl <;> assumption
    exact ⟨this, good_of_word (lw_good _ this)⟩
  · exact lw_sub h5 w hw
theorem lw_S {own : String} {idx : Nat} {y : MethodName} {cc : ByteArray} {n : Nat} {ret : Option FieldType} (h1 : Cond.methodLink own idx y ∈ lw_all) (h2 : Cond.static y ∈ lw_all) (h4 : Cond.initialized y.cls ∈ lw_all) (h5 : Cond.code y cc n ret ∈ lw_all) : GoodIn lw_all (va_wsS own idx y (ws_ y cc n ret)) := fun w hw => by
  rcases List.mem_append.mp hw with hw | hw
  · simp only [List.mem_cons, List.not_mem_nil, or_false] at hw
    have : w ∈ lw_all := by rcases hw with rfl | rfl | rfl <;> assumption
    exact ⟨this, good_of_word (lw_good _ this)⟩
  · exact lw_sub h5 w hw
/-! locals by their numbers -/
def lk : LV → Nat → Option AV
  | [], _ => none
  | (j, v) :: r, i => bif j == i then some v else lk r i
def wd : AV → Bool
  | .inl (.long _) => true
  | .inl (.double _) => true
  | _ => false
def rm1 : LV → Nat → LV
  | [], _ => []
  | (j, v) :: r, i => bif (!(j == i) && !(j + 1 == i && wd v)) then (j, v) :: rm1 r i else rm1 r i
def rm2 : LV → Nat → LV
  | [], _ => []
  | (j, v) :: r, i => bif (!(j == i) && (!(j == i + 1) && !(j + 1 == i && wd v))) then (j, v) :: rm2 r i else rm2 r i
def pick : LV → List Nat → Option LV
  | _, [] => some []
  | lv, i :: is => match lk lv i, pick lv is with
    | some v, some r => some ((i, v) :: r)
    | _, _ => none
def popn : Nat → List AV → List AV → Option (List AV × List AV)
  | 0, st, acc => some (acc, st)
  | n + 1, v :: st, acc => popn n st (v :: acc)
  | _ + 1, [], _ => none
def catS : List AV → Nat
  | [] => 0
  | v :: r => (bif wd v then 2 else 1) + catS r
def pushO : Option AV → List AV → List AV
  | none, r => r
  | some v, r => v :: r
abbrev cL (G : Nat → Nat → Nat) (lv : LV) : List (Nat × Value) := lv.map (fun q => (q.1, cv G q.2))
theorem wd_cat (G : Nat → Nat → Nat) (v : AV) : ((cv G v).category == 2) = wd v := by
  rcases v with v | q
  · cases v <;> rfl
  · rfl
theorem lk_mem {lv : LV} {i : Nat} {v : AV} (h : lk lv i = some v) : (i, v) ∈ lv := by
  induction lv with
  | nil => cases h
  | cons q r ih =>
    obtain ⟨j, w⟩ := q
    unfold lk at h
    cases hj : (j == i)
    · rw [hj] at h
      exact List.mem_cons_of_mem _ (ih h)
    · rw [hj] at h
      cases h
      rw [show j = i from by simpa using hj]
      exact List.mem_cons_self
theorem lk_at {G : Nat → Nat → Nat} {ls : Array Slot} {nL : Nat} {lv : LV} {i : Nat} {v : AV} (hl : lv_has ls nL (cL G lv)) (h : lk lv i = some v) : ls[i]? = some (.val (cv G v)) := hl.2.2 (i, cv G v) (List.mem_map.mpr ⟨(i, v), lk_mem h, rfl⟩)
theorem pick_sub {lv lv' : LV} {is : List Nat} (h : pick lv is = some lv') : ∀ q ∈ lv', q ∈ lv := by
  induction is generalizing lv' with
  | nil => cases h; intro q hq; cases hq
  | cons i is ih =>
    unfold pick at h
    split at h
    · rename_i v r h1 h2
      cases h
      intro q hq
      rcases List.mem_cons.mp hq with rfl | hq
      · exact lk_mem h1
      · exact ih h2 q hq
    · cases h
theorem pick_has {G : Nat → Nat → Nat} {ls : Array Slot} {nL : Nat} {lv lv' : LV} {is : List Nat} (hl : lv_has ls nL (cL G lv)) (h : pick lv is = some lv') : lv_has ls nL (cL G lv') := ⟨hl.1, hl.2.1, fun q hq => by
  obtain ⟨z, hz, rfl⟩ := List.mem_map.mp hq
  exact hl.2.2 _ (List.mem_map.mpr ⟨z, pick_sub h z hz, rfl⟩)⟩
theorem rm1_eq (G : Nat → Nat → Nat) (lv : LV) (i : Nat) : (cL G lv).filter (fun q => !(q.1 == i) && !(q.1 + 1 == i && q.2.category == 2)) = cL G (rm1 lv i) := by
  induction lv with
  | nil => rfl
  | cons q r ih =>
    obtain ⟨j, w⟩ := q
    unfold cL at ih ⊢
    rw [List.map_cons, List.filter_cons]
    unfold rm1
    dsimp only
    rw [wd_cat, ih]
    cases (!(j == i) && !(j + 1 == i && wd w)) <;> rfl
theorem rm2_eq (G : Nat → Nat → Nat) (lv : LV) (i : Nat) : (cL G lv).filter (fun q => !(q.1 == i) && (!(q.1 == i + 1) && !(q.1 + 1 == i && q.2.category == 2))) = cL G (rm2 lv i) := by
  induction lv with
  | nil => rfl
  | cons q r ih =>
    obtain ⟨j, w⟩ := q
    unfold cL at ih ⊢
    rw [List.map_cons, List.filter_cons]
    unfold rm2
    dsimp only
    rw [wd_cat, ih]
    cases (!(j == i) && (!(j == i + 1) && !(j + 1 == i && wd w))) <;> rfl
theorem catS_eq (G : Nat → Nat → Nat) (st : List AV) : ((st.map (cv G)).map fun v => v.category).sum = catS st := by
  induction st with
  | nil => rfl
  | cons v r ih =>
    simp only [List.map_cons, List.sum_cons, catS]
    rw [ih]
    have h := wd_cat G v
    have h2 : (cv G v).category = 1 ∨ (cv G v).category = 2 := lv_cat _
    rcases h2 with h2 | h2 <;> rw [h2] at h ⊢ <;> rw [← h] <;> rfl
theorem popn_eq (G : Nat → Nat → Nat) : ∀ (n : Nat) (st acc as r : List AV), popn n st acc = some (as, r) → ∃ zs : List AV, zs.length = n ∧ st = zs.reverse ++ r ∧ as = zs ++ acc
  | 0, st, acc, as, r, h => by
    cases h
    exact ⟨[], rfl, rfl, rfl⟩
  | n + 1, v :: st, acc, as, r, h => by
    obtain ⟨zs, h1, h2, h3⟩ := popn_eq G n st (v :: acc) as r h
    refine ⟨zs ++ [v], by simp [h1], ?_, ?_⟩
    · rw [h2]; simp
    · rw [h3]; simp
  | n + 1, [], acc, as, r, h => by cases h

/-! ===== one instruction's meaning: what must hold here that all goes well behind it ===== -/
def i_push (v : AV) (k : PT) (lv : LV) (st : List AV) (M : MM) : Prop := k lv (v :: st) M
def i_iload (i : Nat) (k : PT) (lv : LV) (st : List AV) (M : MM) : Prop := match lk lv i with
  | some (.inl (.int x)) => k lv (.inl (.int x) :: st) M
  | _ => False
def i_lload (i : Nat) (k : PT) (lv : LV) (st : List AV) (M : MM) : Prop := match lk lv i with
  | some (.inl (.long x)) => k lv (.inl (.long x) :: st) M
  | _ => False
def i_dload (i : Nat) (k : PT) (lv : LV) (st : List AV) (M : MM) : Prop := match lk lv i with
  | some (.inl (.double x)) => k lv (.inl (.double x) :: st) M
  | _ => False
def i_aload (i : Nat) (k : PT) (lv : LV) (st : List AV) (M : MM) : Prop := match lk lv i with
  | some (.inr q) => k lv (.inr q :: st) M
  | some (.inl (.ref b)) => k lv (.inl (.ref b) :: st) M
  | _ => False
def i_istore (i : Nat) (k : PT) (lv : LV) (st : List AV) (M : MM) : Prop := match st with
  | .inl (.int x) :: r => k ((i, .inl (.int x)) :: rm1 lv i) r M
  | _ => False
def i_astore (i : Nat) (k : PT) (lv : LV) (st : List AV) (M : MM) : Prop := match st with
  | .inr q :: r => k ((i, .inr q) :: rm1 lv i) r M
  | _ => False
def i_lstore (i : Nat) (k : PT) (lv : LV) (st : List AV) (M : MM) : Prop := match st with
  | .inl (.long x) :: r => k ((i, .inl (.long x)) :: rm2 lv i) r M
  | _ => False
def i_dstore (i : Nat) (k : PT) (lv : LV) (st : List AV) (M : MM) : Prop := match st with
  | .inl (.double x) :: r => k ((i, .inl (.double x)) :: rm2 lv i) r M
  | _ => False
def i_iinc (i : Nat) (n : Int32) (k : PT) (lv : LV) (st : List AV) (M : MM) : Prop := match lk lv i with
  | some (.inl (.int x)) => k ((i, .inl (.int (x + n))) :: rm1 lv i) st M
  | _ => False
def i_II (f : Int32 → Int32 → Int32) (k : PT) (lv : LV) (st : List AV) (M : MM) : Prop := match st with
  | .inl (.int b) :: .inl (.int a) :: r => k lv (.inl (.int (f a b)) :: r) M
  | _ => False
def i_div (k : PT) (lv : LV) (st : List AV) (M : MM) : Prop := match st with
  | .inl (.int b) :: .inl (.int a) :: r => ¬ b = 0 ∧ k lv (.inl (.int (a / b)) :: r) M
  | _ => False
def i_LL (f : Int64 → Int64 → Int64) (k : PT) (lv : LV) (st : List AV) (M : MM) : Prop := match st with
  | .inl (.long b) :: .inl (.long a) :: r => k lv (.inl (.long (f a b)) :: r) M
  | _ => False
def i_lshl (k : PT) (lv : LV) (st : List AV) (M : MM) : Prop := match st with
  | .inl (.int b) :: .inl (.long a) :: r => k lv (.inl (.long (a <<< (b.toInt64 &&& 63))) :: r) M
  | _ => False
def i_lcmp (k : PT) (lv : LV) (st : List AV) (M : MM) : Prop := match st with
  | .inl (.long b) :: .inl (.long a) :: r => k lv (.inl (.int (lg_cmp a b)) :: r) M
  | _ => False
def i_dcmp (o : CmpOp) (k : PT) (lv : LV) (st : List AV) (M : MM) : Prop := match st with
  | .inl (.double b) :: .inl (.double a) :: r => k lv (.inl (.int (Op.cmpValue (FP.dcmp a b) o)) :: r) M
  | _ => False
def i_I (f : Int32 → AV) (k : PT) (lv : LV) (st : List AV) (M : MM) : Prop := match st with
  | .inl (.int a) :: r => k lv (f a :: r) M
  | _ => False
def i_L (f : Int64 → AV) (k : PT) (lv : LV) (st : List AV) (M : MM) : Prop := match st with
  | .inl (.long a) :: r => k lv (f a :: r) M
  | _ => False
def i_D (f : UInt64 → AV) (k : PT) (lv : LV) (st : List AV) (M : MM) : Prop := match st with
  | .inl (.double a) :: r => k lv (f a :: r) M
  | _ => False
def i_F (f : UInt32 → AV) (k : PT) (lv : LV) (st : List AV) (M : MM) : Prop := match st with
  | .inl (.float a) :: r => k lv (f a :: r) M
  | _ => False
def i_f2d (k : PT) (lv : LV) (st : List AV) (M : MM) : Prop := match st with
  | .inl (.float a) :: r => vf_n64 (FP.f2d a) ∧ k lv (.inl (.double (FP.f2d a)) :: r) M
  | _ => False
def i_d2f (k : PT) (lv : LV) (st : List AV) (M : MM) : Prop := match st with
  | .inl (.double a) :: r => vf_n32 (FP.d2f a) ∧ k lv (.inl (.float (FP.d2f a)) :: r) M
  | _ => False
def i_fdiv (k : PT) (lv : LV) (st : List AV) (M : MM) : Prop := match st with
  | .inl (.float b) :: .inl (.float a) :: r => vf_n32 (FP.fdiv a b) ∧ k lv (.inl (.float (FP.fdiv a b)) :: r) M
  | _ => False
def i_fmul (k : PT) (lv : LV) (st : List AV) (M : MM) : Prop := match st with
  | .inl (.float b) :: .inl (.float a) :: r => vf_n32 (FP.fmul a b) ∧ k lv (.inl (.float (FP.fmul a b)) :: r) M
  | _ => False
def i_ddiv (k : PT) (lv : LV) (st : List AV) (M : MM) : Prop := match st with
  | .inl (.double b) :: .inl (.double a) :: r => vf_n64 (FP.ddiv a b) ∧ k lv (.inl (.double (FP.ddiv a b)) :: r) M
  | _ => False
def i_dmul (k : PT) (lv : LV) (st : List AV) (M : MM) : Prop := match st with
  | .inl (.double b) :: .inl (.double a) :: r => vf_n64 (FP.dmul a b) ∧ k lv (.inl (.double (FP.dmul a b)) :: r) M
  | _ => False
def i_dup (k : PT) (lv : LV) (st : List AV) (M : MM) : Prop := match st with
  | v :: r => wd v = false ∧ k lv (v :: v :: r) M
  | _ => False
def i_dup2 (k : PT) (lv : LV) (st : List AV) (M : MM) : Prop := match st with
  | v :: w :: r => wd v = false ∧ wd w = false ∧ k lv (v :: w :: v :: w :: r) M
  | _ => False
def i_if (P : Int32 → Prop) (kt kf : PT) (lv : LV) (st : List AV) (M : MM) : Prop := match st with
  | .inl (.int a) :: r => (P a → kt lv r M) ∧ (¬ P a → kf lv r M)
  | _ => False
def i_cmp (P : Int32 → Int32 → Prop) (kt kf : PT) (lv : LV) (st : List AV) (M : MM) : Prop := match st with
  | .inl (.int b) :: .inl (.int a) :: r => (P a b → kt lv r M) ∧ (¬ P a b → kf lv r M)
  | _ => False
def i_swc : List (Int32 × PT) → PT → Int32 → PT
  | [], dk, _, lv, r, M => dk lv r M
  | q :: cs, dk, x, lv, r, M => (x = q.1 → q.2 lv r M) ∧ (¬ x = q.1 → i_swc cs dk x lv r M)
def i_sw (cs : List (Int32 × PT)) (dk : PT) (lv : LV) (st : List AV) (M : MM) : Prop := match st with
  | .inl (.int x) :: r => i_swc cs dk x lv r M
  | _ => False
def i_getI (t f : Nat) (k : PT) (lv : LV) (st : List AV) (M : MM) : Prop := match st with
  | .inr (t', i) :: r => t' = t ∧ i < tCnt t ∧ k lv (.inl (.int (M.1 t i f)) :: r) M
  | _ => False
def i_getR (t : Nat) (t2 : Nat) (g : Nat → Nat) (k : PT) (lv : LV) (st : List AV) (M : MM) : Prop := match st with
  | .inr (t', i) :: r => t' = t ∧ i < tCnt t ∧ k lv (.inr (t2, g i) :: r) M
  | _ => False
def i_putI (t f : Nat) (k : PT) (lv : LV) (st : List AV) (M : MM) : Prop := match st with
  | .inl (.int v) :: .inr (t', i) :: r => t' = t ∧ i < tCnt t ∧ k lv r (sI M t i f v)
  | _ => False
def i_iald (a : Nat) (k : PT) (lv : LV) (st : List AV) (M : MM) : Prop := match st with
  | .inl (.int j) :: .inr (t, i) :: r => aK t = a ∧ i < tCnt t ∧ vp_in j (aN t) ∧ k lv (.inl (.int (M.1 t i j.toNatClampNeg)) :: r) M
  | _ => False
def i_lald (k : PT) (lv : LV) (st : List AV) (M : MM) : Prop := match st with
  | .inl (.int j) :: .inr (t, i) :: r => aK t = 2 ∧ i < tCnt t ∧ vp_in j (aN t) ∧ k lv (.inl (.long (M.2.1 t i j.toNatClampNeg)) :: r) M
  | _ => False
def i_dald (k : PT) (lv : LV) (st : List AV) (M : MM) : Prop := match st with
  | .inl (.int j) :: .inr (t, i) :: r => aK t = 3 ∧ i < tCnt t ∧ vp_in j (aN t) ∧ k lv (.inl (.double (M.2.2 t i j.toNatClampNeg)) :: r) M
  | _ => False
def i_aald (k : PT) (lv : LV) (st : List AV) (M : MM) : Prop := match st with
  | .inl (.int j) :: .inr (t, i) :: r => (aK t = 4 ∨ aK t = 5) ∧ i < tCnt t ∧ vp_in j (aN t) ∧ k lv (.inr (aR t j.toNatClampNeg) :: r) M
  | _ => False
def i_iast (k : PT) (lv : LV) (st : List AV) (M : MM) : Prop := match st with
  | .inl (.int v) :: .inl (.int j) :: .inr (t, i) :: r => aK t = 0 ∧ i < tCnt t ∧ vp_in j (aN t) ∧ k lv r (sI M t i j.toNatClampNeg v)
  | _ => False
def i_bast (k : PT) (lv : LV) (st : List AV) (M : MM) : Prop := match st with
  | .inl (.int v) :: .inl (.int j) :: .inr (t, i) :: r => aK t = 1 ∧ i < tCnt t ∧ vp_in j (aN t) ∧ k lv r (sI M t i j.toNatClampNeg (vp_nar .boolean v))
  | _ => False
def i_last (k : PT) (lv : LV) (st : List AV) (M : MM) : Prop := match st with
  | .inl (.long v) :: .inl (.int j) :: .inr (t, i) :: r => aK t = 2 ∧ i < tCnt t ∧ vp_in j (aN t) ∧ k lv r (sL M t i j.toNatClampNeg v)
  | _ => False
def i_dast (k : PT) (lv : LV) (st : List AV) (M : MM) : Prop := match st with
  | .inl (.double v) :: .inl (.int j) :: .inr (t, i) :: r => aK t = 3 ∧ i < tCnt t ∧ vp_in j (aN t) ∧ k lv r (sD M t i j.toNatClampNeg v)
  | _ => False
def i_alen (k : PT) (lv : LV) (st : List AV) (M : MM) : Prop := match st with
  | .inr (t, i) :: r => aK t < 6 ∧ i < tCnt t ∧ k lv (.inl (.int (Int32.ofNat (aN t))) :: r) M
  | _ => False
def i_call (n : Nat) (S : SP) (k : PT) (lv : LV) (st : List AV) (M : MM) : Prop := match popn n st [] with
  | some q => catS q.2 ≤ 8 ∧ S q.1 M (fun o M' => k lv (pushO o q.2) M')
  | none => False
def i_callV (n t : Nat) (S : SP) (k : PT) (lv : LV) (st : List AV) (M : MM) : Prop := match popn n st [] with
  | some q => match q.2 with
    | .inr (t', i) :: r => t' = t ∧ i < tCnt t ∧ catS r ≤ 8 ∧ S (.inr (t', i) :: q.1) M (fun o M' => k lv (pushO o r) M')
    | _ => False
  | none => False
def i_cpL (k : PT) (lv : LV) (st : List AV) (M : MM) : Prop := match st with
  | .inl (.int n) :: .inl (.int dp) :: .inr (d1, d2) :: .inl (.int sp) :: .inr (a1, a2) :: r => aK d1 = 2 ∧ aK a1 = 2 ∧ d2 < tCnt d1 ∧ a2 < tCnt a1 ∧ ¬ sp < 0 ∧ ¬ dp < 0 ∧ ¬ n < 0 ∧ sp.toNatClampNeg + n.toNatClampNeg ≤ aN a1 ∧ dp.toNatClampNeg + n.toNatClampNeg ≤ aN d1 ∧ catS r ≤ 8 ∧ k lv r (rL M d1 d2 (va_cpy (M.2.1 a1 a2) (M.2.1 d1 d2) sp.toNatClampNeg dp.toNatClampNeg n.toNatClampNeg))
  | _ => False
def i_cpD (k : PT) (lv : LV) (st : List AV) (M : MM) : Prop := match st with
  | .inl (.int n) :: .inl (.int dp) :: .inr (d1, d2) :: .inl (.int sp) :: .inr (a1, a2) :: r => aK d1 = 3 ∧ aK a1 = 3 ∧ d2 < tCnt d1 ∧ a2 < tCnt a1 ∧ ¬ sp < 0 ∧ ¬ dp < 0 ∧ ¬ n < 0 ∧ sp.toNatClampNeg + n.toNatClampNeg ≤ aN a1 ∧ dp.toNatClampNeg + n.toNatClampNeg ≤ aN d1 ∧ catS r ≤ 8 ∧ k lv r (rD M d1 d2 (va_cpy (M.2.2 a1 a2) (M.2.2 d1 d2) sp.toNatClampNeg dp.toNatClampNeg n.toNatClampNeg))
  | _ => False
def i_iret (q : Option AV → MM → Prop) (_ : LV) (st : List AV) (M : MM) : Prop := match st with
  | [.inl (.int v)] => q (some (.inl (.int v))) M
  | _ => False
def i_zret (q : Option AV → MM → Prop) (_ : LV) (st : List AV) (M : MM) : Prop := match st with
  | [.inl (.int v)] => (v = 0 ∨ v = 1) ∧ q (some (.inl (.int v))) M
  | _ => False
def i_lret (q : Option AV → MM → Prop) (_ : LV) (st : List AV) (M : MM) : Prop := match st with
  | [.inl (.long v)] => q (some (.inl (.long v))) M
  | _ => False
def i_vret (q : Option AV → MM → Prop) (_ : LV) (st : List AV) (M : MM) : Prop := match st with
  | [] => q none M
  | _ => False
/-- to a place where ways meet: the listed locals, in this order -/
def i_cut (is : List Nat) (k : PT) (lv : LV) (st : List AV) (M : MM) : Prop := match pick lv is with
  | some lv' => k lv' st M
  | none => False
def b2i (P : Prop) [Decidable P] : Int32 := if P then 1 else 0
/-! ===== soundness over the machine ===== -/
section MS
variable {p : Program} {l : Launch} {e : Env} {R : Room} {s : State} {m : MethodId} {args : Array Value} {below : List Frame} {meth : Method} {c : Code} {cells slots : Nat} {Q : State → Prop} {nL : Nat} {A : Nat → Prop} {G : Nat → Nat → Nat} {cy : Nat → ClassId} {dC : Nat → ClassId} {dI : Nat → Nat → Nat} {cc : ByteArray} {own : String}
def SW (p : Program) (l : Launch) (e : Env) (R : Room) (s : State) (m : MethodId) (args : Array Value) (below : List Frame) (meth : Method) (c : Code) (cells slots : Nat) (Q : State → Prop) (nL : Nat) (A : Nat → Prop) (G : Nat → Nat → Nat) (cy : Nat → ClassId) (dC : Nat → ClassId) (dI : Nat → Nat → Nat) (pc : Nat) (lv : LV) (st : List AV) (M : MM) : Prop :=
  ∀ (H : Heap) (locs : List Loc) (ls : Array Slot), va_P (dC, dI) mcl (wl G cy M) H → va_S A s.heap H locs → lv_has ls nL (cL G lv) → W p l e R s m args below meth c H locs cells slots Q (F0 m pc ls (st.map (cv G)))
def SO (p : Program) (l : Launch) (e : Env) (R : Room) (s : State) (m : MethodId) (args : Array Value) (below : List Frame) (meth : Method) (c : Code) (cells slots : Nat) (Q : State → Prop) (nL : Nat) (A : Nat → Prop) (G : Nat → Nat → Nat) (cy : Nat → ClassId) (dC : Nat → ClassId) (dI : Nat → Nat → Nat) (pc : Nat) (k : PT) : Prop :=
  ∀ lv st M, k lv st M → SW p l e R s m args below meth c cells slots Q nL A G cy dC dI pc lv st M
def FX (p : Program) (m : MethodId) (c : Code) (cc : ByteArray) (nL : Nat) (own : String) (s : State) (args : Array Value) (A : Nat → Prop) (G : Nat → Nat → Nat) (cy : Nat → ClassId) (dC : Nat → ClassId) (dI : Nat → Nat → Nat) : Prop :=
  p.tables.exec = Jvm.exec ∧ c.code = cc ∧ c.maxLocals = nL ∧ s.vm.findClass own = some m.cls ∧ (∀ w ∈ lw_all, w.before args s = true) ∧ va_K (dC, dI) mcl (tys cy) s ∧ NW s ∧ GD A G
set_option maxHeartbeats 1000000 in
theorem s_iconst {n : Int} {v : Int32} (F : FX p m c cc nL own s args A G cy dC dI) {pc : Nat} {k : PT} (d : decode cc pc = .ok (.iconst n, 1)) (hv : Int32.ofInt n = v) (h : SO p l e R s m args below meth c cells slots Q nL A G cy dC dI (pc + 1) k) : SO p l e R s m args below meth c cells slots Q nL A G cy dC dI pc (i_push (.inl (.int v)) k) := by
  intro lv st M hw H locs ls hP hS hl
  unfold i_push at hw
  exact lv_iconst F.1 F.2.1 d hv (h _ _ _ hw H locs ls hP hS hl)
set_option maxHeartbeats 1000000 in
theorem s_bipush {n : Int} {v : Int32} (F : FX p m c cc nL own s args A G cy dC dI) {pc : Nat} {k : PT} (d : decode cc pc = .ok (.bipush n, 2)) (hv : (Int8.ofInt n).toInt32 = v) (h : SO p l e R s m args below meth c cells slots Q nL A G cy dC dI (pc + 2) k) : SO p l e R s m args below meth c cells slots Q nL A G cy dC dI pc (i_push (.inl (.int v)) k) := by
  intro lv st M hw H locs ls hP hS hl
  unfold i_push at hw
  exact lv_bipush F.1 F.2.1 d hv (h _ _ _ hw H locs ls hP hS hl)
set_option maxHeartbeats 1000000 in
theorem s_sipush {n : Int} {v : Int32} (F : FX p m c cc nL own s args A G cy dC dI) {pc : Nat} {k : PT} (d : decode cc pc = .ok (.sipush n, 3)) (hv : (Int16.ofInt n).toInt32 = v) (h : SO p l e R s m args below meth c cells slots Q nL A G cy dC dI (pc + 3) k) : SO p l e R s m args below meth c cells slots Q nL A G cy dC dI pc (i_push (.inl (.int v)) k) := by
  intro lv st M hw H locs ls hP hS hl
  unfold i_push at hw
  exact lv_sipush F.1 F.2.1 d hv (h _ _ _ hw H locs ls hP hS hl)
set_option maxHeartbeats 1000000 in
theorem s_lconst {n : Fin 2} {v : Int64} (F : FX p m c cc nL own s args A G cy dC dI) {pc : Nat} {k : PT} (d : decode cc pc = .ok (.lconst n, 1)) (hv : Int64.ofNat (n : Nat) = v) (h : SO p l e R s m args below meth c cells slots Q nL A G cy dC dI (pc + 1) k) : SO p l e R s m args below meth c cells slots Q nL A G cy dC dI pc (i_push (.inl (.long v)) k) := by
  intro lv st M hw H locs ls hP hS hl
  unfold i_push at hw
  exact lv_lconst F.1 F.2.1 d hv (h _ _ _ hw H locs ls hP hS hl)
set_option maxHeartbeats 1000000 in
theorem s_dconst0 (F : FX p m c cc nL own s args A G cy dC dI) {pc : Nat} {k : PT} (d : decode cc pc = .ok (.dconst 0, 1)) (h : SO p l e R s m args below meth c cells slots Q nL A G cy dC dI (pc + 1) k) : SO p l e R s m args below meth c cells slots Q nL A G cy dC dI pc (i_push (.inl (.double 0)) k) := by
  intro lv st M hw H locs ls hP hS hl
  unfold i_push at hw
  exact lv_dconst0 F.1 F.2.1 d (h _ _ _ hw H locs ls hP hS hl)
set_option maxHeartbeats 1000000 in
theorem s_ldc {ix : Nat} {v : Int32} (F : FX p m c cc nL own s args A G cy dC dI) {pc : Nat} {k : PT} (d : decode cc pc = .ok (.ldc ix, 2)) (q : Cond.constant own ix v ∈ lw_all) (h : SO p l e R s m args below meth c cells slots Q nL A G cy dC dI (pc + 2) k) : SO p l e R s m args below meth c cells slots Q nL A G cy dC dI pc (i_push (.inl (.int v)) k) := by
  intro lv st M hw H locs ls hP hS hl
  unfold i_push at hw
  exact lv_ldc F.1 F.2.1 F.2.2.2.1 (F.2.2.2.2.1 _ q) d (h _ _ _ hw H locs ls hP hS hl)
set_option maxHeartbeats 1000000 in
theorem s_ldcf {ix : Nat} {v : UInt32} (F : FX p m c cc nL own s args A G cy dC dI) {pc : Nat} {k : PT} (d : decode cc pc = .ok (.ldc ix, 2)) (q : Cond.constantFloat own ix v ∈ lw_all) (h : SO p l e R s m args below meth c cells slots Q nL A G cy dC dI (pc + 2) k) : SO p l e R s m args below meth c cells slots Q nL A G cy dC dI pc (i_push (.inl (.float v)) k) := by
  intro lv st M hw H locs ls hP hS hl
  unfold i_push at hw
  exact lv_ldcf F.1 F.2.1 F.2.2.2.1 (F.2.2.2.2.1 _ q) d (h _ _ _ hw H locs ls hP hS hl)
set_option maxHeartbeats 1000000 in
theorem s_ldc2 {ix : Nat} {v : Int64} (F : FX p m c cc nL own s args A G cy dC dI) {pc : Nat} {k : PT} (d : decode cc pc = .ok (.ldc2_w ix, 3)) (q : Cond.constantLong own ix v ∈ lw_all) (h : SO p l e R s m args below meth c cells slots Q nL A G cy dC dI (pc + 3) k) : SO p l e R s m args below meth c cells slots Q nL A G cy dC dI pc (i_push (.inl (.long v)) k) := by
  intro lv st M hw H locs ls hP hS hl
  unfold i_push at hw
  exact lv_ldc2 F.1 F.2.1 F.2.2.2.1 (F.2.2.2.2.1 _ q) d (h _ _ _ hw H locs ls hP hS hl)
set_option maxHeartbeats 1000000 in
theorem s_ldc2d {ix : Nat} {v : UInt64} (F : FX p m c cc nL own s args A G cy dC dI) {pc : Nat} {k : PT} (d : decode cc pc = .ok (.ldc2_w ix, 3)) (q : Cond.constantDouble own ix v ∈ lw_all) (h : SO p l e R s m args below meth c cells slots Q nL A G cy dC dI (pc + 3) k) : SO p l e R s m args below meth c cells slots Q nL A G cy dC dI pc (i_push (.inl (.double v)) k) := by
  intro lv st M hw H locs ls hP hS hl
  unfold i_push at hw
  exact lv_ldc2d F.1 F.2.1 F.2.2.2.1 (F.2.2.2.2.1 _ q) d (h _ _ _ hw H locs ls hP hS hl)
set_option maxHeartbeats 1000000 in
theorem s_iload {i : Nat} (F : FX p m c cc nL own s args A G cy dC dI) {pc : Nat} {k : PT} (d : decode cc pc = .ok (.iload i, 2)) (h : SO p l e R s m args below meth c cells slots Q nL A G cy dC dI (pc + 2) k) : SO p l e R s m args below meth c cells slots Q nL A G cy dC dI pc (i_iload i k) := by
  intro lv st M hw H locs ls hP hS hl
  unfold i_iload at hw
  split at hw
  · rename_i x hx
    exact lv_iload F.1 F.2.1 d (lk_at hl hx) (h _ _ _ hw H locs ls hP hS hl)
  · exact hw.elim
set_option maxHeartbeats 1000000 in
theorem s_iload_n {n : Fin 4} {i : Nat} (F : FX p m c cc nL own s args A G cy dC dI) {pc : Nat} {k : PT} (d : decode cc pc = .ok (.iload_n n, 1)) (hi : (n : Nat) = i) (h : SO p l e R s m args below meth c cells slots Q nL A G cy dC dI (pc + 1) k) : SO p l e R s m args below meth c cells slots Q nL A G cy dC dI pc (i_iload i k) := by
  intro lv st M hw H locs ls hP hS hl
  unfold i_iload at hw
  split at hw
  · rename_i x hx
    exact lv_iload_n F.1 F.2.1 d hi (lk_at hl hx) (h _ _ _ hw H locs ls hP hS hl)
  · exact hw.elim
set_option maxHeartbeats 1000000 in
theorem s_lload {i : Nat} (F : FX p m c cc nL own s args A G cy dC dI) {pc : Nat} {k : PT} (d : decode cc pc = .ok (.lload i, 2)) (h : SO p l e R s m args below meth c cells slots Q nL A G cy dC dI (pc + 2) k) : SO p l e R s m args below meth c cells slots Q nL A G cy dC dI pc (i_lload i k) := by
  intro lv st M hw H locs ls hP hS hl
  unfold i_lload at hw
  split at hw
  · rename_i x hx
    exact lv_lload F.1 F.2.1 d (lk_at hl hx) (h _ _ _ hw H locs ls hP hS hl)
  · exact hw.elim
set_option maxHeartbeats 1000000 in
theorem s_lload_n {n : Fin 4} {i : Nat} (F : FX p m c cc nL own s args A G cy dC dI) {pc : Nat} {k : PT} (d : decode cc pc = .ok (.lload_n n, 1)) (hi : (n : Nat) = i) (h : SO p l e R s m args below meth c cells slots Q nL A G cy dC dI (pc + 1) k) : SO p l e R s m args below meth c cells slots Q nL A G cy dC dI pc (i_lload i k) := by
  intro lv st M hw H locs ls hP hS hl
  unfold i_lload at hw
  split at hw
  · rename_i x hx
    exact lv_lload_n F.1 F.2.1 d hi (lk_at hl hx) (h _ _ _ hw H locs ls hP hS hl)
  · exact hw.elim
set_option maxHeartbeats 1000000 in
theorem s_dload {i : Nat} (F : FX p m c cc nL own s args A G cy dC dI) {pc : Nat} {k : PT} (d : decode cc pc = .ok (.dload i, 2)) (h : SO p l e R s m args below meth c cells slots Q nL A G cy dC dI (pc + 2) k) : SO p l e R s m args below meth c cells slots Q nL A G cy dC dI pc (i_dload i k) := by
  intro lv st M hw H locs ls hP hS hl
  unfold i_dload at hw
  split at hw
  · rename_i x hx
    exact lv_dload F.1 F.2.1 d (lk_at hl hx) (h _ _ _ hw H locs ls hP hS hl)
  · exact hw.elim
set_option maxHeartbeats 1000000 in
theorem s_dload_n {n : Fin 4} {i : Nat} (F : FX p m c cc nL own s args A G cy dC dI) {pc : Nat} {k : PT} (d : decode cc pc = .ok (.dload_n n, 1)) (hi : (n : Nat) = i) (h : SO p l e R s m args below meth c cells slots Q nL A G cy dC dI (pc + 1) k) : SO p l e R s m args below meth c cells slots Q nL A G cy dC dI pc (i_dload i k) := by
  intro lv st M hw H locs ls hP hS hl
  unfold i_dload at hw
  split at hw
  · rename_i x hx
    exact lv_dload_n F.1 F.2.1 d hi (lk_at hl hx) (h _ _ _ hw H locs ls hP hS hl)
  · exact hw.elim
set_option maxHeartbeats 1000000 in
theorem s_aload {i : Nat} (F : FX p m c cc nL own s args A G cy dC dI) {pc : Nat} {k : PT} (d : decode cc pc = .ok (.aload i, 2)) (h : SO p l e R s m args below meth c cells slots Q nL A G cy dC dI (pc + 2) k) : SO p l e R s m args below meth c cells slots Q nL A G cy dC dI pc (i_aload i k) := by
  intro lv st M hw H locs ls hP hS hl
  unfold i_aload at hw
  split at hw
  · rename_i x hx
    exact lv_aload F.1 F.2.1 d (lk_at hl hx) (h _ _ _ hw H locs ls hP hS hl)
  · rename_i x hx
    exact lv_aload F.1 F.2.1 d (lk_at hl hx) (h _ _ _ hw H locs ls hP hS hl)
  · exact hw.elim
set_option maxHeartbeats 1000000 in
theorem s_aload_n {n : Fin 4} {i : Nat} (F : FX p m c cc nL own s args A G cy dC dI) {pc : Nat} {k : PT} (d : decode cc pc = .ok (.aload_n n, 1)) (hi : (n : Nat) = i) (h : SO p l e R s m args below meth c cells slots Q nL A G cy dC dI (pc + 1) k) : SO p l e R s m args below meth c cells slots Q nL A G cy dC dI pc (i_aload i k) := by
  intro lv st M hw H locs ls hP hS hl
  unfold i_aload at hw
  split at hw
  · rename_i x hx
    exact lv_aload_n F.1 F.2.1 d hi (lk_at hl hx) (h _ _ _ hw H locs ls hP hS hl)
  · rename_i x hx
    exact lv_aload_n F.1 F.2.1 d hi (lk_at hl hx) (h _ _ _ hw H locs ls hP hS hl)
  · exact hw.elim
set_option maxHeartbeats 1000000 in
theorem s_istore {i : Nat} (F : FX p m c cc nL own s args A G cy dC dI) {pc : Nat} {k : PT} (d : decode cc pc = .ok (.istore i, 2)) (hn : i < nL) (h : SO p l e R s m args below meth c cells slots Q nL A G cy dC dI (pc + 2) k) : SO p l e R s m args below meth c cells slots Q nL A G cy dC dI pc (i_istore i k) := by
  intro lv st M hw H locs ls hP hS hl
  unfold i_istore at hw
  split at hw
  · exact lv_istore F.1 F.2.1 d hl hn (by rw [rm1_eq]; rfl) (fun ls2 hl2 => h _ _ _ hw H locs ls2 hP hS hl2)
  · exact hw.elim
set_option maxHeartbeats 1000000 in
theorem s_istore_n {n : Fin 4} {i : Nat} (F : FX p m c cc nL own s args A G cy dC dI) {pc : Nat} {k : PT} (d : decode cc pc = .ok (.istore_n n, 1)) (hi : (n : Nat) = i) (hn : i < nL) (h : SO p l e R s m args below meth c cells slots Q nL A G cy dC dI (pc + 1) k) : SO p l e R s m args below meth c cells slots Q nL A G cy dC dI pc (i_istore i k) := by
  intro lv st M hw H locs ls hP hS hl
  unfold i_istore at hw
  split at hw
  · exact lv_istore_n F.1 F.2.1 d hi hl hn (by rw [rm1_eq]; rfl) (fun ls2 hl2 => h _ _ _ hw H locs ls2 hP hS hl2)
  · exact hw.elim
set_option maxHeartbeats 1000000 in
theorem s_astore {i : Nat} (F : FX p m c cc nL own s args A G cy dC dI) {pc : Nat} {k : PT} (d : decode cc pc = .ok (.astore i, 2)) (hn : i < nL) (h : SO p l e R s m args below meth c cells slots Q nL A G cy dC dI (pc + 2) k) : SO p l e R s m args below meth c cells slots Q nL A G cy dC dI pc (i_astore i k) := by
  intro lv st M hw H locs ls hP hS hl
  unfold i_astore at hw
  split at hw
  · exact lv_astore F.1 F.2.1 d hl hn (by rw [rm1_eq]; rfl) (fun ls2 hl2 => h _ _ _ hw H locs ls2 hP hS hl2)
  · exact hw.elim
set_option maxHeartbeats 1000000 in
theorem s_astore_n {n : Fin 4} {i : Nat} (F : FX p m c cc nL own s args A G cy dC dI) {pc : Nat} {k : PT} (d : decode cc pc = .ok (.astore_n n, 1)) (hi : (n : Nat) = i) (hn : i < nL) (h : SO p l e R s m args below meth c cells slots Q nL A G cy dC dI (pc + 1) k) : SO p l e R s m args below meth c cells slots Q nL A G cy dC dI pc (i_astore i k) := by
  intro lv st M hw H locs ls hP hS hl
  unfold i_astore at hw
  split at hw
  · exact lv_astore_n F.1 F.2.1 d hi hl hn (by rw [rm1_eq]; rfl) (fun ls2 hl2 => h _ _ _ hw H locs ls2 hP hS hl2)
  · exact hw.elim
set_option maxHeartbeats 1000000 in
theorem s_lstore {i : Nat} (F : FX p m c cc nL own s args A G cy dC dI) {pc : Nat} {k : PT} (d : decode cc pc = .ok (.lstore i, 2)) (hn : i + 1 < nL) (h : SO p l e R s m args below meth c cells slots Q nL A G cy dC dI (pc + 2) k) : SO p l e R s m args below meth c cells slots Q nL A G cy dC dI pc (i_lstore i k) := by
  intro lv st M hw H locs ls hP hS hl
  unfold i_lstore at hw
  split at hw
  · exact lv_lstore F.1 F.2.1 d hl hn (by rw [rm2_eq]; rfl) (fun ls2 hl2 => h _ _ _ hw H locs ls2 hP hS hl2)
  · exact hw.elim
set_option maxHeartbeats 1000000 in
theorem s_dstore {i : Nat} (F : FX p m c cc nL own s args A G cy dC dI) {pc : Nat} {k : PT} (d : decode cc pc = .ok (.dstore i, 2)) (hn : i + 1 < nL) (h : SO p l e R s m args below meth c cells slots Q nL A G cy dC dI (pc + 2) k) : SO p l e R s m args below meth c cells slots Q nL A G cy dC dI pc (i_dstore i k) := by
  intro lv st M hw H locs ls hP hS hl
  unfold i_dstore at hw
  split at hw
  · exact lv_dstore F.1 F.2.1 d hl hn (by rw [rm2_eq]; rfl) (fun ls2 hl2 => h _ _ _ hw H locs ls2 hP hS hl2)
  · exact hw.elim
set_option maxHeartbeats 1000000 in
theorem s_iinc {i : Nat} {n : Int} {v : Int32} (F : FX p m c cc nL own s args A G cy dC dI) {pc : Nat} {k : PT} (d : decode cc pc = .ok (.iinc i n, 3)) (hv : Int32.ofInt n = v) (hn : i < nL) (h : SO p l e R s m args below meth c cells slots Q nL A G cy dC dI (pc + 3) k) : SO p l e R s m args below meth c cells slots Q nL A G cy dC dI pc (i_iinc i v k) := by
  intro lv st M hw H locs ls hP hS hl
  unfold i_iinc at hw
  split at hw
  · rename_i x hx
    have hm := lk_mem hx
    obtain ⟨z, hz⟩ := List.getElem?_of_mem (List.mem_map.mpr ⟨_, hm, rfl⟩ : (i, cv G (.inl (.int x))) ∈ cL G lv)
    exact lv_iinc F.1 F.2.1 d hl (k := z) hz (by rw [hv]) hn (by rw [rm1_eq]; rfl) (fun ls2 hl2 => h _ _ _ hw H locs ls2 hP hS hl2)
  · exact hw.elim
set_option maxHeartbeats 1000000 in
theorem s_iadd (F : FX p m c cc nL own s args A G cy dC dI) {pc : Nat} {k : PT} (d : decode cc pc = .ok (.iadd, 1)) (h : SO p l e R s m args below meth c cells slots Q nL A G cy dC dI (pc + 1) k) : SO p l e R s m args below meth c cells slots Q nL A G cy dC dI pc (i_II (fun a b => a + b) k) := by
  intro lv st M hw H locs ls hP hS hl
  unfold i_II at hw
  split at hw
  · exact lv_iadd F.1 F.2.1 d (h _ _ _ hw H locs ls hP hS hl)
  · exact hw.elim
set_option maxHeartbeats 1000000 in
theorem s_isub (F : FX p m c cc nL own s args A G cy dC dI) {pc : Nat} {k : PT} (d : decode cc pc = .ok (.isub, 1)) (h : SO p l e R s m args below meth c cells slots Q nL A G cy dC dI (pc + 1) k) : SO p l e R s m args below meth c cells slots Q nL A G cy dC dI pc (i_II (fun a b => a - b) k) := by
  intro lv st M hw H locs ls hP hS hl
  unfold i_II at hw
  split at hw
  · exact lv_isub F.1 F.2.1 d (h _ _ _ hw H locs ls hP hS hl)
  · exact hw.elim
set_option maxHeartbeats 1000000 in
theorem s_imul (F : FX p m c cc nL own s args A G cy dC dI) {pc : Nat} {k : PT} (d : decode cc pc = .ok (.imul, 1)) (h : SO p l e R s m args below meth c cells slots Q nL A G cy dC dI (pc + 1) k) : SO p l e R s m args below meth c cells slots Q nL A G cy dC dI pc (i_II (fun a b => a * b) k) := by
  intro lv st M hw H locs ls hP hS hl
  unfold i_II at hw
  split at hw
  · exact lv_imul F.1 F.2.1 d (h _ _ _ hw H locs ls hP hS hl)
  · exact hw.elim
set_option maxHeartbeats 1000000 in
theorem s_iand (F : FX p m c cc nL own s args A G cy dC dI) {pc : Nat} {k : PT} (d : decode cc pc = .ok (.iand, 1)) (h : SO p l e R s m args below meth c cells slots Q nL A G cy dC dI (pc + 1) k) : SO p l e R s m args below meth c cells slots Q nL A G cy dC dI pc (i_II (fun a b => a &&& b) k) := by
  intro lv st M hw H locs ls hP hS hl
  unfold i_II at hw
  split at hw
  · exact lv_iand F.1 F.2.1 d (h _ _ _ hw H locs ls hP hS hl)
  · exact hw.elim
set_option maxHeartbeats 1000000 in
theorem s_ishr (F : FX p m c cc nL own s args A G cy dC dI) {pc : Nat} {k : PT} (d : decode cc pc = .ok (.ishr, 1)) (h : SO p l e R s m args below meth c cells slots Q nL A G cy dC dI (pc + 1) k) : SO p l e R s m args below meth c cells slots Q nL A G cy dC dI pc (i_II (fun a b => a >>> (b &&& 31)) k) := by
  intro lv st M hw H locs ls hP hS hl
  unfold i_II at hw
  split at hw
  · exact lv_ishr F.1 F.2.1 d (h _ _ _ hw H locs ls hP hS hl)
  · exact hw.elim
set_option maxHeartbeats 1000000 in
theorem s_idiv (F : FX p m c cc nL own s args A G cy dC dI) {pc : Nat} {k : PT} (d : decode cc pc = .ok (.idiv, 1)) (h : SO p l e R s m args below meth c cells slots Q nL A G cy dC dI (pc + 1) k) : SO p l e R s m args below meth c cells slots Q nL A G cy dC dI pc (i_div k) := by
  intro lv st M hw H locs ls hP hS hl
  unfold i_div at hw
  split at hw
  · exact lv_idiv F.1 F.2.1 d hw.1 (h _ _ _ hw.2 H locs ls hP hS hl)
  · exact hw.elim
set_option maxHeartbeats 1000000 in
theorem s_land (F : FX p m c cc nL own s args A G cy dC dI) {pc : Nat} {k : PT} (d : decode cc pc = .ok (.land, 1)) (h : SO p l e R s m args below meth c cells slots Q nL A G cy dC dI (pc + 1) k) : SO p l e R s m args below meth c cells slots Q nL A G cy dC dI pc (i_LL (fun a b => a &&& b) k) := by
  intro lv st M hw H locs ls hP hS hl
  unfold i_LL at hw
  split at hw
  · exact lv_land F.1 F.2.1 d (h _ _ _ hw H locs ls hP hS hl)
  · exact hw.elim
set_option maxHeartbeats 1000000 in
theorem s_lor (F : FX p m c cc nL own s args A G cy dC dI) {pc : Nat} {k : PT} (d : decode cc pc = .ok (.lor, 1)) (h : SO p l e R s m args below meth c cells slots Q nL A G cy dC dI (pc + 1) k) : SO p l e R s m args below meth c cells slots Q nL A G cy dC dI pc (i_LL (fun a b => a ||| b) k) := by
  intro lv st M hw H locs ls hP hS hl
  unfold i_LL at hw
  split at hw
  · exact lv_lor F.1 F.2.1 d (h _ _ _ hw H locs ls hP hS hl)
  · exact hw.elim
set_option maxHeartbeats 1000000 in
theorem s_lshl (F : FX p m c cc nL own s args A G cy dC dI) {pc : Nat} {k : PT} (d : decode cc pc = .ok (.lshl, 1)) (h : SO p l e R s m args below meth c cells slots Q nL A G cy dC dI (pc + 1) k) : SO p l e R s m args below meth c cells slots Q nL A G cy dC dI pc (i_lshl k) := by
  intro lv st M hw H locs ls hP hS hl
  unfold i_lshl at hw
  split at hw
  · exact lv_lshl F.1 F.2.1 d rfl (h _ _ _ hw H locs ls hP hS hl)
  · exact hw.elim
set_option maxHeartbeats 1000000 in
theorem s_lcmp (F : FX p m c cc nL own s args A G cy dC dI) {pc : Nat} {k : PT} (d : decode cc pc = .ok (.lcmp, 1)) (h : SO p l e R s m args below meth c cells slots Q nL A G cy dC dI (pc + 1) k) : SO p l e R s m args below meth c cells slots Q nL A G cy dC dI pc (i_lcmp k) := by
  intro lv st M hw H locs ls hP hS hl
  unfold i_lcmp at hw
  split at hw
  · exact W.lcmp F.1 F.2.1 d (h _ _ _ hw H locs ls hP hS hl)
  · exact hw.elim
set_option maxHeartbeats 1000000 in
theorem s_dcmp {o : CmpOp} (F : FX p m c cc nL own s args A G cy dC dI) {pc : Nat} {k : PT} (d : decode cc pc = .ok (.dcmp o, 1)) (h : SO p l e R s m args below meth c cells slots Q nL A G cy dC dI (pc + 1) k) : SO p l e R s m args below meth c cells slots Q nL A G cy dC dI pc (i_dcmp o k) := by
  intro lv st M hw H locs ls hP hS hl
  unfold i_dcmp at hw
  split at hw
  · exact lv_dcmp F.1 F.2.1 d (h _ _ _ hw H locs ls hP hS hl)
  · exact hw.elim
set_option maxHeartbeats 1000000 in
theorem s_i2l (F : FX p m c cc nL own s args A G cy dC dI) {pc : Nat} {k : PT} (d : decode cc pc = .ok (.i2l, 1)) (h : SO p l e R s m args below meth c cells slots Q nL A G cy dC dI (pc + 1) k) : SO p l e R s m args below meth c cells slots Q nL A G cy dC dI pc (i_I (fun a => .inl (.long a.toInt64)) k) := by
  intro lv st M hw H locs ls hP hS hl
  unfold i_I at hw
  split at hw
  · exact lv_i2l F.1 F.2.1 d rfl (h _ _ _ hw H locs ls hP hS hl)
  · exact hw.elim
set_option maxHeartbeats 1000000 in
theorem s_i2b (F : FX p m c cc nL own s args A G cy dC dI) {pc : Nat} {k : PT} (d : decode cc pc = .ok (.i2b, 1)) (h : SO p l e R s m args below meth c cells slots Q nL A G cy dC dI (pc + 1) k) : SO p l e R s m args below meth c cells slots Q nL A G cy dC dI pc (i_I (fun a => .inl (.int a.toInt8.toInt32)) k) := by
  intro lv st M hw H locs ls hP hS hl
  unfold i_I at hw
  split at hw
  · exact lv_i2b F.1 F.2.1 d rfl (h _ _ _ hw H locs ls hP hS hl)
  · exact hw.elim
set_option maxHeartbeats 1000000 in
theorem s_i2s (F : FX p m c cc nL own s args A G cy dC dI) {pc : Nat} {k : PT} (d : decode cc pc = .ok (.i2s, 1)) (h : SO p l e R s m args below meth c cells slots Q nL A G cy dC dI (pc + 1) k) : SO p l e R s m args below meth c cells slots Q nL A G cy dC dI pc (i_I (fun a => .inl (.int a.toInt16.toInt32)) k) := by
  intro lv st M hw H locs ls hP hS hl
  unfold i_I at hw
  split at hw
  · exact lv_i2s F.1 F.2.1 d rfl (h _ _ _ hw H locs ls hP hS hl)
  · exact hw.elim
set_option maxHeartbeats 1000000 in
theorem s_i2c (F : FX p m c cc nL own s args A G cy dC dI) {pc : Nat} {k : PT} (d : decode cc pc = .ok (.i2c, 1)) (h : SO p l e R s m args below meth c cells slots Q nL A G cy dC dI (pc + 1) k) : SO p l e R s m args below meth c cells slots Q nL A G cy dC dI pc (i_I (fun a => .inl (.int (a.toUInt32 % 65536).toInt32)) k) := by
  intro lv st M hw H locs ls hP hS hl
  unfold i_I at hw
  split at hw
  · exact lv_i2c F.1 F.2.1 d rfl (h _ _ _ hw H locs ls hP hS hl)
  · exact hw.elim
set_option maxHeartbeats 1000000 in
theorem s_l2i (F : FX p m c cc nL own s args A G cy dC dI) {pc : Nat} {k : PT} (d : decode cc pc = .ok (.l2i, 1)) (h : SO p l e R s m args below meth c cells slots Q nL A G cy dC dI (pc + 1) k) : SO p l e R s m args below meth c cells slots Q nL A G cy dC dI pc (i_L (fun a => .inl (.int a.toInt32)) k) := by
  intro lv st M hw H locs ls hP hS hl
  unfold i_L at hw
  split at hw
  · exact lv_l2i F.1 F.2.1 d rfl (h _ _ _ hw H locs ls hP hS hl)
  · exact hw.elim
set_option maxHeartbeats 1000000 in
theorem s_l2d (F : FX p m c cc nL own s args A G cy dC dI) {pc : Nat} {k : PT} (d : decode cc pc = .ok (.l2d, 1)) (h : SO p l e R s m args below meth c cells slots Q nL A G cy dC dI (pc + 1) k) : SO p l e R s m args below meth c cells slots Q nL A G cy dC dI pc (i_L (fun a => .inl (.double (FP.l2d a))) k) := by
  intro lv st M hw H locs ls hP hS hl
  unfold i_L at hw
  split at hw
  · exact lv_l2d F.1 F.2.1 d (h _ _ _ hw H locs ls hP hS hl)
  · exact hw.elim
set_option maxHeartbeats 1000000 in
theorem s_l2f (F : FX p m c cc nL own s args A G cy dC dI) {pc : Nat} {k : PT} (d : decode cc pc = .ok (.l2f, 1)) (h : SO p l e R s m args below meth c cells slots Q nL A G cy dC dI (pc + 1) k) : SO p l e R s m args below meth c cells slots Q nL A G cy dC dI pc (i_L (fun a => .inl (.float (FP.l2f a))) k) := by
  intro lv st M hw H locs ls hP hS hl
  unfold i_L at hw
  split at hw
  · exact lv_l2f F.1 F.2.1 d (h _ _ _ hw H locs ls hP hS hl)
  · exact hw.elim
set_option maxHeartbeats 1000000 in
theorem s_d2l (F : FX p m c cc nL own s args A G cy dC dI) {pc : Nat} {k : PT} (d : decode cc pc = .ok (.d2l, 1)) (h : SO p l e R s m args below meth c cells slots Q nL A G cy dC dI (pc + 1) k) : SO p l e R s m args below meth c cells slots Q nL A G cy dC dI pc (i_D (fun a => .inl (.long (FP.d2l a))) k) := by
  intro lv st M hw H locs ls hP hS hl
  unfold i_D at hw
  split at hw
  · exact lv_d2l F.1 F.2.1 d (h _ _ _ hw H locs ls hP hS hl)
  · exact hw.elim
set_option maxHeartbeats 1000000 in
theorem s_f2l (F : FX p m c cc nL own s args A G cy dC dI) {pc : Nat} {k : PT} (d : decode cc pc = .ok (.f2l, 1)) (h : SO p l e R s m args below meth c cells slots Q nL A G cy dC dI (pc + 1) k) : SO p l e R s m args below meth c cells slots Q nL A G cy dC dI pc (i_F (fun a => .inl (.long (FP.f2l a))) k) := by
  intro lv st M hw H locs ls hP hS hl
  unfold i_F at hw
  split at hw
  · exact lv_f2l F.1 F.2.1 d (h _ _ _ hw H locs ls hP hS hl)
  · exact hw.elim
set_option maxHeartbeats 1000000 in
theorem s_f2d (F : FX p m c cc nL own s args A G cy dC dI) {pc : Nat} {k : PT} (d : decode cc pc = .ok (.f2d, 1)) (h : SO p l e R s m args below meth c cells slots Q nL A G cy dC dI (pc + 1) k) : SO p l e R s m args below meth c cells slots Q nL A G cy dC dI pc (i_f2d k) := by
  intro lv st M hw H locs ls hP hS hl
  unfold i_f2d at hw
  split at hw
  · exact lv_f2d F.1 F.2.1 d hw.1 (h _ _ _ hw.2 H locs ls hP hS hl)
  · exact hw.elim
set_option maxHeartbeats 1000000 in
theorem s_d2f (F : FX p m c cc nL own s args A G cy dC dI) {pc : Nat} {k : PT} (d : decode cc pc = .ok (.d2f, 1)) (h : SO p l e R s m args below meth c cells slots Q nL A G cy dC dI (pc + 1) k) : SO p l e R s m args below meth c cells slots Q nL A G cy dC dI pc (i_d2f k) := by
  intro lv st M hw H locs ls hP hS hl
  unfold i_d2f at hw
  split at hw
  · exact lv_d2f F.1 F.2.1 d hw.1 (h _ _ _ hw.2 H locs ls hP hS hl)
  · exact hw.elim
set_option maxHeartbeats 1000000 in
theorem s_fdiv (F : FX p m c cc nL own s args A G cy dC dI) {pc : Nat} {k : PT} (d : decode cc pc = .ok (.fdiv, 1)) (h : SO p l e R s m args below meth c cells slots Q nL A G cy dC dI (pc + 1) k) : SO p l e R s m args below meth c cells slots Q nL A G cy dC dI pc (i_fdiv k) := by
  intro lv st M hw H locs ls hP hS hl
  unfold i_fdiv at hw
  split at hw
  · exact lv_fdiv F.1 F.2.1 d hw.1 (h _ _ _ hw.2 H locs ls hP hS hl)
  · exact hw.elim
set_option maxHeartbeats 1000000 in
theorem s_fmul (F : FX p m c cc nL own s args A G cy dC dI) {pc : Nat} {k : PT} (d : decode cc pc = .ok (.fmul, 1)) (h : SO p l e R s m args below meth c cells slots Q nL A G cy dC dI (pc + 1) k) : SO p l e R s m args below meth c cells slots Q nL A G cy dC dI pc (i_fmul k) := by
  intro lv st M hw H locs ls hP hS hl
  unfold i_fmul at hw
  split at hw
  · exact lv_fmul F.1 F.2.1 d hw.1 (h _ _ _ hw.2 H locs ls hP hS hl)
  · exact hw.elim
set_option maxHeartbeats 1000000 in
theorem s_ddiv (F : FX p m c cc nL own s args A G cy dC dI) {pc : Nat} {k : PT} (d : decode cc pc = .ok (.ddiv, 1)) (h : SO p l e R s m args below meth c cells slots Q nL A G cy dC dI (pc + 1) k) : SO p l e R s m args below meth c cells slots Q nL A G cy dC dI pc (i_ddiv k) := by
  intro lv st M hw H locs ls hP hS hl
  unfold i_ddiv at hw
  split at hw
  · exact lv_ddiv F.1 F.2.1 d hw.1 (h _ _ _ hw.2 H locs ls hP hS hl)
  · exact hw.elim
set_option maxHeartbeats 1000000 in
theorem s_dmul (F : FX p m c cc nL own s args A G cy dC dI) {pc : Nat} {k : PT} (d : decode cc pc = .ok (.dmul, 1)) (h : SO p l e R s m args below meth c cells slots Q nL A G cy dC dI (pc + 1) k) : SO p l e R s m args below meth c cells slots Q nL A G cy dC dI pc (i_dmul k) := by
  intro lv st M hw H locs ls hP hS hl
  unfold i_dmul at hw
  split at hw
  · exact lv_dmul F.1 F.2.1 d hw.1 (h _ _ _ hw.2 H locs ls hP hS hl)
  · exact hw.elim
theorem wd_1 (G : Nat → Nat → Nat) {v : AV} (h : wd v = false) : (cv G v).category = 1 := by
  rcases lv_cat (cv G v) with q | q
  · exact q
  · have := wd_cat G v
    rw [q, h] at this
    cases this
set_option maxHeartbeats 1000000 in
theorem s_dup (F : FX p m c cc nL own s args A G cy dC dI) {pc : Nat} {k : PT} (d : decode cc pc = .ok (.dup, 1)) (h : SO p l e R s m args below meth c cells slots Q nL A G cy dC dI (pc + 1) k) : SO p l e R s m args below meth c cells slots Q nL A G cy dC dI pc (i_dup k) := by
  intro lv st M hw H locs ls hP hS hl
  unfold i_dup at hw
  split at hw
  · exact lv_dup F.1 F.2.1 d (wd_1 G hw.1) (h _ _ _ hw.2 H locs ls hP hS hl)
  · exact hw.elim
set_option maxHeartbeats 1000000 in
theorem s_dup2 (F : FX p m c cc nL own s args A G cy dC dI) {pc : Nat} {k : PT} (d : decode cc pc = .ok (.dup2, 1)) (h : SO p l e R s m args below meth c cells slots Q nL A G cy dC dI (pc + 1) k) : SO p l e R s m args below meth c cells slots Q nL A G cy dC dI pc (i_dup2 k) := by
  intro lv st M hw H locs ls hP hS hl
  unfold i_dup2 at hw
  split at hw
  · exact lv_dup2_11 F.1 F.2.1 d (wd_1 G hw.1) (wd_1 G hw.2.1) (h _ _ _ hw.2.2 H locs ls hP hS hl)
  · exact hw.elim
set_option maxHeartbeats 1000000 in
theorem s_goto (F : FX p m c cc nL own s args A G cy dC dI) {pc tgt : Nat} {off : Int} {k : PT} (d : decode cc pc = .ok (.goto off, 3)) (ht : (pc : Int) + off = (tgt : Int)) (h : SO p l e R s m args below meth c cells slots Q nL A G cy dC dI tgt k) : SO p l e R s m args below meth c cells slots Q nL A G cy dC dI pc k := by
  intro lv st M hw H locs ls hP hS hl
  exact lv_goto F.1 F.2.1 d ht (h _ _ _ hw H locs ls hP hS hl)
set_option maxHeartbeats 1000000 in
theorem s_if_eq (F : FX p m c cc nL own s args A G cy dC dI) {pc tgt : Nat} {off : Int} {k1 k2 : PT} (d : decode cc pc = .ok (.ifCond .eq off, 3)) (ht : (pc : Int) + off = (tgt : Int)) (h1 : SO p l e R s m args below meth c cells slots Q nL A G cy dC dI tgt k1) (h2 : SO p l e R s m args below meth c cells slots Q nL A G cy dC dI (pc + 3) k2) : SO p l e R s m args below meth c cells slots Q nL A G cy dC dI pc (i_if (fun a => a = 0) k1 k2) := by
  intro lv st M hw H locs ls hP hS hl
  unfold i_if at hw
  split at hw
  · exact lv_if_eq F.1 F.2.1 d ht (fun q => h1 _ _ _ (hw.1 (q)) H locs ls hP hS hl) (fun q => h2 _ _ _ (hw.2 (q)) H locs ls hP hS hl)
  · exact hw.elim
set_option maxHeartbeats 1000000 in
theorem s_if_ne (F : FX p m c cc nL own s args A G cy dC dI) {pc tgt : Nat} {off : Int} {k1 k2 : PT} (d : decode cc pc = .ok (.ifCond .ne off, 3)) (ht : (pc : Int) + off = (tgt : Int)) (h1 : SO p l e R s m args below meth c cells slots Q nL A G cy dC dI tgt k1) (h2 : SO p l e R s m args below meth c cells slots Q nL A G cy dC dI (pc + 3) k2) : SO p l e R s m args below meth c cells slots Q nL A G cy dC dI pc (i_if (fun a => a = 0) k2 k1) := by
  intro lv st M hw H locs ls hP hS hl
  unfold i_if at hw
  split at hw
  · exact lv_if_ne F.1 F.2.1 d ht (fun q => h1 _ _ _ (hw.2 (q)) H locs ls hP hS hl) (fun q => h2 _ _ _ (hw.1 (q)) H locs ls hP hS hl)
  · exact hw.elim
set_option maxHeartbeats 1000000 in
theorem s_if_lt (F : FX p m c cc nL own s args A G cy dC dI) {pc tgt : Nat} {off : Int} {k1 k2 : PT} (d : decode cc pc = .ok (.ifCond .lt off, 3)) (ht : (pc : Int) + off = (tgt : Int)) (h1 : SO p l e R s m args below meth c cells slots Q nL A G cy dC dI tgt k1) (h2 : SO p l e R s m args below meth c cells slots Q nL A G cy dC dI (pc + 3) k2) : SO p l e R s m args below meth c cells slots Q nL A G cy dC dI pc (i_if (fun a => a < 0) k1 k2) := by
  intro lv st M hw H locs ls hP hS hl
  unfold i_if at hw
  split at hw
  · exact lv_if_lt F.1 F.2.1 d ht (fun q => h1 _ _ _ (hw.1 (q)) H locs ls hP hS hl) (fun q => h2 _ _ _ (hw.2 (q)) H locs ls hP hS hl)
  · exact hw.elim
set_option maxHeartbeats 1000000 in
theorem s_if_ge (F : FX p m c cc nL own s args A G cy dC dI) {pc tgt : Nat} {off : Int} {k1 k2 : PT} (d : decode cc pc = .ok (.ifCond .ge off, 3)) (ht : (pc : Int) + off = (tgt : Int)) (h1 : SO p l e R s m args below meth c cells slots Q nL A G cy dC dI tgt k1) (h2 : SO p l e R s m args below meth c cells slots Q nL A G cy dC dI (pc + 3) k2) : SO p l e R s m args below meth c cells slots Q nL A G cy dC dI pc (i_if (fun a => a < 0) k2 k1) := by
  intro lv st M hw H locs ls hP hS hl
  unfold i_if at hw
  split at hw
  · exact lv_if_ge F.1 F.2.1 d ht (fun q => h1 _ _ _ (hw.2 (Int32.not_lt.mpr q)) H locs ls hP hS hl) (fun q => h2 _ _ _ (hw.1 (Int32.not_le.mp q)) H locs ls hP hS hl)
  · exact hw.elim
set_option maxHeartbeats 1000000 in
theorem s_if_gt (F : FX p m c cc nL own s args A G cy dC dI) {pc tgt : Nat} {off : Int} {k1 k2 : PT} (d : decode cc pc = .ok (.ifCond .gt off, 3)) (ht : (pc : Int) + off = (tgt : Int)) (h1 : SO p l e R s m args below meth c cells slots Q nL A G cy dC dI tgt k1) (h2 : SO p l e R s m args below meth c cells slots Q nL A G cy dC dI (pc + 3) k2) : SO p l e R s m args below meth c cells slots Q nL A G cy dC dI pc (i_if (fun a => 0 < a) k1 k2) := by
  intro lv st M hw H locs ls hP hS hl
  unfold i_if at hw
  split at hw
  · exact lv_if_gt F.1 F.2.1 d ht (fun q => h1 _ _ _ (hw.1 (q)) H locs ls hP hS hl) (fun q => h2 _ _ _ (hw.2 (q)) H locs ls hP hS hl)
  · exact hw.elim
set_option maxHeartbeats 1000000 in
theorem s_if_le (F : FX p m c cc nL own s args A G cy dC dI) {pc tgt : Nat} {off : Int} {k1 k2 : PT} (d : decode cc pc = .ok (.ifCond .le off, 3)) (ht : (pc : Int) + off = (tgt : Int)) (h1 : SO p l e R s m args below meth c cells slots Q nL A G cy dC dI tgt k1) (h2 : SO p l e R s m args below meth c cells slots Q nL A G cy dC dI (pc + 3) k2) : SO p l e R s m args below meth c cells slots Q nL A G cy dC dI pc (i_if (fun a => 0 < a) k2 k1) := by
  intro lv st M hw H locs ls hP hS hl
  unfold i_if at hw
  split at hw
  · exact lv_if_le F.1 F.2.1 d ht (fun q => h1 _ _ _ (hw.2 (Int32.not_lt.mpr q)) H locs ls hP hS hl) (fun q => h2 _ _ _ (hw.1 (Int32.not_le.mp q)) H locs ls hP hS hl)
  · exact hw.elim
set_option maxHeartbeats 1000000 in
theorem s_icmp_eq (F : FX p m c cc nL own s args A G cy dC dI) {pc tgt : Nat} {off : Int} {k1 k2 : PT} (d : decode cc pc = .ok (.if_icmp .eq off, 3)) (ht : (pc : Int) + off = (tgt : Int)) (h1 : SO p l e R s m args below meth c cells slots Q nL A G cy dC dI tgt k1) (h2 : SO p l e R s m args below meth c cells slots Q nL A G cy dC dI (pc + 3) k2) : SO p l e R s m args below meth c cells slots Q nL A G cy dC dI pc (i_cmp (fun a b => a = b) k1 k2) := by
  intro lv st M hw H locs ls hP hS hl
  unfold i_cmp at hw
  split at hw
  · exact lv_icmp_eq F.1 F.2.1 d ht (fun q => h1 _ _ _ (hw.1 (q)) H locs ls hP hS hl) (fun q => h2 _ _ _ (hw.2 (q)) H locs ls hP hS hl)
  · exact hw.elim
set_option maxHeartbeats 1000000 in
theorem s_icmp_ne (F : FX p m c cc nL own s args A G cy dC dI) {pc tgt : Nat} {off : Int} {k1 k2 : PT} (d : decode cc pc = .ok (.if_icmp .ne off, 3)) (ht : (pc : Int) + off = (tgt : Int)) (h1 : SO p l e R s m args below meth c cells slots Q nL A G cy dC dI tgt k1) (h2 : SO p l e R s m args below meth c cells slots Q nL A G cy dC dI (pc + 3) k2) : SO p l e R s m args below meth c cells slots Q nL A G cy dC dI pc (i_cmp (fun a b => a = b) k2 k1) := by
  intro lv st M hw H locs ls hP hS hl
  unfold i_cmp at hw
  split at hw
  · exact lv_icmp_ne F.1 F.2.1 d ht (fun q => h1 _ _ _ (hw.2 (q)) H locs ls hP hS hl) (fun q => h2 _ _ _ (hw.1 (q)) H locs ls hP hS hl)
  · exact hw.elim
set_option maxHeartbeats 1000000 in
theorem s_icmp_lt (F : FX p m c cc nL own s args A G cy dC dI) {pc tgt : Nat} {off : Int} {k1 k2 : PT} (d : decode cc pc = .ok (.if_icmp .lt off, 3)) (ht : (pc : Int) + off = (tgt : Int)) (h1 : SO p l e R s m args below meth c cells slots Q nL A G cy dC dI tgt k1) (h2 : SO p l e R s m args below meth c cells slots Q nL A G cy dC dI (pc + 3) k2) : SO p l e R s m args below meth c cells slots Q nL A G cy dC dI pc (i_cmp (fun a b => a < b) k1 k2) := by
  intro lv st M hw H locs ls hP hS hl
  unfold i_cmp at hw
  split at hw
  · exact lv_icmp_lt F.1 F.2.1 d ht (fun q => h1 _ _ _ (hw.1 (q)) H locs ls hP hS hl) (fun q => h2 _ _ _ (hw.2 (q)) H locs ls hP hS hl)
  · exact hw.elim
set_option maxHeartbeats 1000000 in
theorem s_icmp_ge (F : FX p m c cc nL own s args A G cy dC dI) {pc tgt : Nat} {off : Int} {k1 k2 : PT} (d : decode cc pc = .ok (.if_icmp .ge off, 3)) (ht : (pc : Int) + off = (tgt : Int)) (h1 : SO p l e R s m args below meth c cells slots Q nL A G cy dC dI tgt k1) (h2 : SO p l e R s m args below meth c cells slots Q nL A G cy dC dI (pc + 3) k2) : SO p l e R s m args below meth c cells slots Q nL A G cy dC dI pc (i_cmp (fun a b => a < b) k2 k1) := by
  intro lv st M hw H locs ls hP hS hl
  unfold i_cmp at hw
  split at hw
  · exact lv_icmp_ge F.1 F.2.1 d ht (fun q => h1 _ _ _ (hw.2 (Int32.not_lt.mpr q)) H locs ls hP hS hl) (fun q => h2 _ _ _ (hw.1 (Int32.not_le.mp q)) H locs ls hP hS hl)
  · exact hw.elim
set_option maxHeartbeats 1000000 in
theorem s_icmp_gt (F : FX p m c cc nL own s args A G cy dC dI) {pc tgt : Nat} {off : Int} {k1 k2 : PT} (d : decode cc pc = .ok (.if_icmp .gt off, 3)) (ht : (pc : Int) + off = (tgt : Int)) (h1 : SO p l e R s m args below meth c cells slots Q nL A G cy dC dI tgt k1) (h2 : SO p l e R s m args below meth c cells slots Q nL A G cy dC dI (pc + 3) k2) : SO p l e R s m args below meth c cells slots Q nL A G cy dC dI pc (i_cmp (fun a b => b < a) k1 k2) := by
  intro lv st M hw H locs ls hP hS hl
  unfold i_cmp at hw
  split at hw
  · exact lv_icmp_gt F.1 F.2.1 d ht (fun q => h1 _ _ _ (hw.1 (q)) H locs ls hP hS hl) (fun q => h2 _ _ _ (hw.2 (q)) H locs ls hP hS hl)
  · exact hw.elim
set_option maxHeartbeats 1000000 in
theorem s_icmp_le (F : FX p m c cc nL own s args A G cy dC dI) {pc tgt : Nat} {off : Int} {k1 k2 : PT} (d : decode cc pc = .ok (.if_icmp .le off, 3)) (ht : (pc : Int) + off = (tgt : Int)) (h1 : SO p l e R s m args below meth c cells slots Q nL A G cy dC dI tgt k1) (h2 : SO p l e R s m args below meth c cells slots Q nL A G cy dC dI (pc + 3) k2) : SO p l e R s m args below meth c cells slots Q nL A G cy dC dI pc (i_cmp (fun a b => b < a) k2 k1) := by
  intro lv st M hw H locs ls hP hS hl
  unfold i_cmp at hw
  split at hw
  · exact lv_icmp_le F.1 F.2.1 d ht (fun q => h1 _ _ _ (hw.2 (Int32.not_lt.mpr q)) H locs ls hP hS hl) (fun q => h2 _ _ _ (hw.1 (Int32.not_le.mp q)) H locs ls hP hS hl)
  · exact hw.elim
set_option maxHeartbeats 1000000 in
theorem s_sw {pc : Nat} {dk : PT} (go : Int32 → Nat) (hgo : ∀ (x : Int32) (lv : LV) (st : List AV) (M : MM), SW p l e R s m args below meth c cells slots Q nL A G cy dC dI (go x) lv st M → SW p l e R s m args below meth c cells slots Q nL A G cy dC dI pc lv (.inl (.int x) :: st) M) :
    ∀ (cs : List (Int32 × PT)), (∀ q ∈ cs, SO p l e R s m args below meth c cells slots Q nL A G cy dC dI (go q.1) q.2) → (∀ x : Int32, (∀ q ∈ cs, ¬ x = q.1) → SO p l e R s m args below meth c cells slots Q nL A G cy dC dI (go x) dk) → SO p l e R s m args below meth c cells slots Q nL A G cy dC dI pc (i_sw cs dk) := by
  intro cs hcs hd lv st M hw
  unfold i_sw at hw
  split at hw
  · rename_i x r
    refine hgo x lv r M ?_
    have key : ∀ (zs : List (Int32 × PT)), (∀ q ∈ zs, q ∈ cs) → (∀ q ∈ cs, q ∈ zs ∨ ¬ x = q.1) → i_swc zs dk x lv r M → SW p l e R s m args below meth c cells slots Q nL A G cy dC dI (go x) lv r M := by
      intro zs
      induction zs with
      | nil =>
        intro _ h2 h3
        exact hd x (fun q hq => (h2 q hq).resolve_left (fun z => nomatch z)) _ _ _ h3
      | cons z zs ih =>
        intro h1 h2 h3
        by_cases e : x = z.1
        · have := hcs z (h1 z List.mem_cons_self) _ _ _ (h3.1 e)
          rw [e]
          exact this
        · refine ih (fun q hq => h1 q (List.mem_cons_of_mem _ hq)) (fun q hq => ?_) (h3.2 e)
          rcases h2 q hq with h | h
          · rcases List.mem_cons.mp h with rfl | h
            · exact Or.inr e
            · exact Or.inl h
          · exact Or.inr h
    exact key cs (fun _ h => h) (fun q hq => Or.inl hq) hw
  · exact hw.elim
set_option maxHeartbeats 1000000 in
theorem s_tsw (F : FX p m c cc nL own s args A G cy dC dI) {pc len : Nat} {dflt lo hi : Int} {offs : Array Int} {dk : PT} (cs : List (Int32 × PT)) (go : Int32 → Nat) (dt : Nat) (d : decode cc pc = .ok (.tableswitch dflt lo hi offs, len)) (hdt : (pc : Int) + dflt = (dt : Int))
    (hgo : ∀ x : Int32, (¬ x.toInt < lo ∧ ¬ hi < x.toInt ∧ ∃ off, offs[(x.toInt - lo).toNat]? = some off ∧ (pc : Int) + off = (go x : Int)) ∨ ((x.toInt < lo ∨ hi < x.toInt) ∧ go x = dt))
    (hcs : ∀ q ∈ cs, SO p l e R s m args below meth c cells slots Q nL A G cy dC dI (go q.1) q.2) (hd : ∀ x : Int32, (∀ q ∈ cs, ¬ x = q.1) → SO p l e R s m args below meth c cells slots Q nL A G cy dC dI (go x) dk) : SO p l e R s m args below meth c cells slots Q nL A G cy dC dI pc (i_sw cs dk) := by
  refine s_sw go (fun x lv st M h => ?_) cs hcs hd
  intro H locs ls hP hS hl
  rcases hgo x with ⟨h1, h2, off, h3, h4⟩ | ⟨h1, h2⟩
  · exact lv_tableIn F.1 F.2.1 d h1 h2 h3 h4 (h H locs ls hP hS hl)
  · rw [h2] at h
    exact lv_tableOut F.1 F.2.1 d h1 hdt (h H locs ls hP hS hl)
theorem s_lsw (F : FX p m c cc nL own s args A G cy dC dI) {pc len : Nat} {dflt : Int} {ps : Array (Int × Int)} {dk : PT} (cs : List (Int32 × PT)) (go : Int32 → Nat) (d : decode cc pc = .ok (.lookupswitch dflt ps, len)) (hp : (ps.toList.zip (ps.toList.drop 1)).all (fun (a, next) => a.1 < next.1) = true)
    (hgo : ∀ x : Int32, (pc : Int) + Op.lookupswitch.offset ps.toList dflt x.toInt = (go x : Int))
    (hcs : ∀ q ∈ cs, SO p l e R s m args below meth c cells slots Q nL A G cy dC dI (go q.1) q.2) (hd : ∀ x : Int32, (∀ q ∈ cs, ¬ x = q.1) → SO p l e R s m args below meth c cells slots Q nL A G cy dC dI (go x) dk) : SO p l e R s m args below meth c cells slots Q nL A G cy dC dI pc (i_sw cs dk) := by
  refine s_sw go (fun x lv st M h => ?_) cs hcs hd
  intro H locs ls hP hS hl
  exact lv_lookup F.1 F.2.1 d hp rfl (hgo x) (h H locs ls hP hS hl)
set_option maxHeartbeats 1000000 in
theorem s_getI (F : FX p m c cc nL own s args A G cy dC dI) {pc ix t f ci N : Nat} {k : PT} {C : String} {T : u_T} (d : decode cc pc = .ok (.getfield ix, 3)) (hc : mcl[ci]? = some (C, T, N)) (hin : ∀ w ∈ u_ws C T N, w ∈ lw_all) (hf : f < N) (q : Cond.fieldLink own ix (T f).1 (T f).2.1 (T f).2.2.1 ∈ lw_all)
    (hv : ∀ (i : Nat) (a : Nat → Int32) (b : Nat → Int64) (z : Nat → UInt64), ∃ fs : List Value, cR G cy t i a b z = .inr (ci, fs) ∧ fs[f]? = some (.int (a f))) (h : SO p l e R s m args below meth c cells slots Q nL A G cy dC dI (pc + 3) k) : SO p l e R s m args below meth c cells slots Q nL A G cy dC dI pc (i_getI t f k) := by
  intro lv st M hw H locs ls hP hS hl
  unfold i_getI at hw
  split at hw
  · rename_i t' i r
    obtain ⟨rfl, h2, h3⟩ := hw
    obtain ⟨fs, e1, e2⟩ := hv i (M.1 t' i) (M.2.1 t' i) (M.2.2 t' i)
    exact va_get F.1 F.2.1 F.2.2.2.2.1 hin F.2.2.2.1 F.2.2.2.2.2.1 hP (tOff t' + i) (by rw [wl_at h2, ← e1]) hc f hf (F.2.2.2.2.1 _ q) (fun _ h9 => h9) e2 d (h _ _ _ h3 H locs ls hP hS hl)
  · exact hw.elim
theorem s_getIN (F : FX p m c cc nL own s args A G cy dC dI) {pc ix t f ci N : Nat} {k : PT} {C host : String} {T : u_T} (d : decode cc pc = .ok (.getfield ix, 3)) (hc : mcl[ci]? = some (C, T, N)) (hin : ∀ w ∈ u_ws C T N, w ∈ lw_all) (hf : f < N) (q : Cond.fieldLinkNest own ix (T f).1 (T f).2.1 (T f).2.2.1 host ∈ nwL)
    (hv : ∀ (i : Nat) (a : Nat → Int32) (b : Nat → Int64) (z : Nat → UInt64), ∃ fs : List Value, cR G cy t i a b z = .inr (ci, fs) ∧ fs[f]? = some (.int (a f))) (h : SO p l e R s m args below meth c cells slots Q nL A G cy dC dI (pc + 3) k) : SO p l e R s m args below meth c cells slots Q nL A G cy dC dI pc (i_getI t f k) := by
  intro lv st M hw H locs ls hP hS hl
  unfold i_getI at hw
  split at hw
  · rename_i t' i r
    obtain ⟨rfl, h2, h3⟩ := hw
    obtain ⟨fs, e1, e2⟩ := hv i (M.1 t' i) (M.2.1 t' i) (M.2.2 t' i)
    exact va_getN F.1 F.2.1 F.2.2.2.2.1 hin F.2.2.2.1 F.2.2.2.2.2.1 hP (tOff t' + i) (by rw [wl_at h2, ← e1]) hc f hf (va_Nw.use (nwL_tab _ q) (F.2.2.2.2.2.2.1 _ q)) (fun _ h9 => h9) e2 d (h _ _ _ h3 H locs ls hP hS hl)
  · exact hw.elim
theorem s_getR (F : FX p m c cc nL own s args A G cy dC dI) {pc ix t f ci N t2 : Nat} {g : Nat → Nat} {k : PT} {C : String} {T : u_T} (d : decode cc pc = .ok (.getfield ix, 3)) (hc : mcl[ci]? = some (C, T, N)) (hin : ∀ w ∈ u_ws C T N, w ∈ lw_all) (hf : f < N) (q : Cond.fieldLink own ix (T f).1 (T f).2.1 (T f).2.2.1 ∈ lw_all)
    (hv : ∀ (i : Nat) (a : Nat → Int32) (b : Nat → Int64) (z : Nat → UInt64), ∃ fs : List Value, cR G cy t i a b z = .inr (ci, fs) ∧ fs[f]? = some (.ref (G t2 (g i)))) (h : SO p l e R s m args below meth c cells slots Q nL A G cy dC dI (pc + 3) k) : SO p l e R s m args below meth c cells slots Q nL A G cy dC dI pc (i_getR t t2 g k) := by
  intro lv st M hw H locs ls hP hS hl
  unfold i_getR at hw
  split at hw
  · rename_i t' i r
    obtain ⟨rfl, h2, h3⟩ := hw
    obtain ⟨fs, e1, e2⟩ := hv i (M.1 t' i) (M.2.1 t' i) (M.2.2 t' i)
    exact va_get F.1 F.2.1 F.2.2.2.2.1 hin F.2.2.2.1 F.2.2.2.2.2.1 hP (tOff t' + i) (by rw [wl_at h2, ← e1]) hc f hf (F.2.2.2.2.1 _ q) (fun _ h9 => h9) e2 d (h _ _ _ h3 H locs ls hP hS hl)
  · exact hw.elim
set_option maxHeartbeats 1000000 in
theorem s_putI (F : FX p m c cc nL own s args A G cy dC dI) {pc ix t f ci N : Nat} {k : PT} {C : String} {T : u_T} (d : decode cc pc = .ok (.putfield ix, 3)) (hc : mcl[ci]? = some (C, T, N)) (hin : ∀ w ∈ u_ws C T N, w ∈ lw_all) (ty0 : Nat → FieldType) (hty : ∀ k, k < N → parseFieldDescriptor (T k).2.2.1 = some (ty0 k)) (hnm : ∀ a, a < N → ∀ b, b < N → a ≠ b → (T a).2.1 ≠ (T b).2.1) (hf : f < N) (q : Cond.fieldLink own ix (T f).1 (T f).2.1 (T f).2.2.1 ∈ lw_all) (hfin : (T f).2.2.2 = false) (hint : parseFieldDescriptor (T f).2.2.1 = some .int)
    (hv : ∀ (i : Nat) (a : Nat → Int32) (b : Nat → Int64) (z : Nat → UInt64) (v : Int32), ∃ fs : List Value, cR G cy t i a b z = .inr (ci, fs) ∧ f < fs.length ∧ cR G cy t i (upd a f v) b z = .inr (ci, fs.set f (.int v))) (h : SO p l e R s m args below meth c cells slots Q nL A G cy dC dI (pc + 3) k) : SO p l e R s m args below meth c cells slots Q nL A G cy dC dI pc (i_putI t f k) := by
  intro lv st M hw H locs ls hP hS hl
  unfold i_putI at hw
  split at hw
  · rename_i v t' i r
    obtain ⟨rfl, h2, h3⟩ := hw
    obtain ⟨fs, e1, e2, e3⟩ := hv i (M.1 t' i) (M.2.1 t' i) (M.2.2 t' i) v
    refine va_put F.1 F.2.1 F.2.2.2.2.1 hin ty0 hty hnm F.2.2.2.1 F.2.2.2.2.2.1 hP (wl_D F.2.2.2.2.2.2.2 cy M) hS (tOff t' + i) (by rw [wl_at h2, ← e1]) hc f hf (F.2.2.2.2.1 _ q) (fun _ h9 => h9) hfin hint rfl rfl e2 d (fun H1 locs1 hP1 _ hS1 => ?_)
    refine h _ _ _ h3 H1 locs1 ls ?_ hS1 hl
    have key : (wl G cy M).set (tOff t' + i) (G t' i, .inr (ci, fs.set f (.int v))) = wl G cy (sI M t' i f v) := by
      refine wl_set h2 ?_ ?_ (fun _ _ _ => rfl) (fun _ _ _ => rfl)
      · refine Eq.trans ?_ e3
        show cR G cy t' i _ _ _ = _
        congr 1
        funext z
        simp [sI, upd]
      · intro t2 i2 hne
        funext z
        simp only [sI]
        rw [if_neg (fun e => hne ⟨e.1, e.2.1⟩)]
    show va_P _ _ (wl G cy (sI M t' i f v)) H1
    rw [← key]
    exact hP1
  · exact hw.elim
set_option maxHeartbeats 1000000 in
theorem s_putIN (F : FX p m c cc nL own s args A G cy dC dI) {pc ix t f ci N : Nat} {k : PT} {C host : String} {T : u_T} (d : decode cc pc = .ok (.putfield ix, 3)) (hc : mcl[ci]? = some (C, T, N)) (hin : ∀ w ∈ u_ws C T N, w ∈ lw_all) (ty0 : Nat → FieldType) (hty : ∀ k, k < N → parseFieldDescriptor (T k).2.2.1 = some (ty0 k)) (hnm : ∀ a, a < N → ∀ b, b < N → a ≠ b → (T a).2.1 ≠ (T b).2.1) (hf : f < N) (q : Cond.fieldLinkNest own ix (T f).1 (T f).2.1 (T f).2.2.1 host ∈ nwL) (hfin : (T f).2.2.2 = false) (hint : parseFieldDescriptor (T f).2.2.1 = some .int)
    (hv : ∀ (i : Nat) (a : Nat → Int32) (b : Nat → Int64) (z : Nat → UInt64) (v : Int32), ∃ fs : List Value, cR G cy t i a b z = .inr (ci, fs) ∧ f < fs.length ∧ cR G cy t i (upd a f v) b z = .inr (ci, fs.set f (.int v))) (h : SO p l e R s m args below meth c cells slots Q nL A G cy dC dI (pc + 3) k) : SO p l e R s m args below meth c cells slots Q nL A G cy dC dI pc (i_putI t f k) := by
  intro lv st M hw H locs ls hP hS hl
  unfold i_putI at hw
  split at hw
  · rename_i v t' i r
    obtain ⟨rfl, h2, h3⟩ := hw
    obtain ⟨fs, e1, e2, e3⟩ := hv i (M.1 t' i) (M.2.1 t' i) (M.2.2 t' i) v
    refine va_putN F.1 F.2.1 F.2.2.2.2.1 hin ty0 hty hnm F.2.2.2.1 F.2.2.2.2.2.1 hP (wl_D F.2.2.2.2.2.2.2 cy M) hS (tOff t' + i) (by rw [wl_at h2, ← e1]) hc f hf (va_Nw.use (nwL_tab _ q) (F.2.2.2.2.2.2.1 _ q)) (fun _ h9 => h9) hfin hint rfl rfl e2 d (fun H1 locs1 hP1 _ hS1 => ?_)
    refine h _ _ _ h3 H1 locs1 ls ?_ hS1 hl
    have key : (wl G cy M).set (tOff t' + i) (G t' i, .inr (ci, fs.set f (.int v))) = wl G cy (sI M t' i f v) := by
      refine wl_set h2 ?_ ?_ (fun _ _ _ => rfl) (fun _ _ _ => rfl)
      · refine Eq.trans ?_ e3
        show cR G cy t' i _ _ _ = _
        congr 1
        funext z
        simp [sI, upd]
      · intro t2 i2 hne
        funext z
        simp only [sI]
        rw [if_neg (fun e => hne ⟨e.1, e.2.1⟩)]
    show va_P _ _ (wl G cy (sI M t' i f v)) H1
    rw [← key]
    exact hP1
  · exact hw.elim
theorem cR_0 {t i : Nat} {a : Nat → Int32} {b : Nat → Int64} {z : Nat → UInt64} (h : aK t = 0) : cR G cy t i a b z = .inl (cy 0, aN t, .inl a) := by
  have h0 : t ≠ 0 ∧ t ≠ 4 ∧ t ≠ 5 ∧ t ≠ 8 := ⟨fun e => by rw [e] at h; exact absurd h (by decide), fun e => by rw [e] at h; exact absurd h (by decide), fun e => by rw [e] at h; exact absurd h (by decide), fun e => by rw [e] at h; exact absurd h (by decide)⟩
  unfold cR
  rw [if_neg h0.1, if_neg h0.2.1, if_neg h0.2.2.1, if_neg h0.2.2.2, if_pos h]
theorem cR_1 {t i : Nat} {a : Nat → Int32} {b : Nat → Int64} {z : Nat → UInt64} (h : aK t = 1) : cR G cy t i a b z = .inl (cy 1, aN t, .inl a) := by
  have h0 : t ≠ 0 ∧ t ≠ 4 ∧ t ≠ 5 ∧ t ≠ 8 := ⟨fun e => by rw [e] at h; exact absurd h (by decide), fun e => by rw [e] at h; exact absurd h (by decide), fun e => by rw [e] at h; exact absurd h (by decide), fun e => by rw [e] at h; exact absurd h (by decide)⟩
  unfold cR
  rw [if_neg h0.1, if_neg h0.2.1, if_neg h0.2.2.1, if_neg h0.2.2.2, if_neg (by omega), if_pos h]
theorem cR_2 {t i : Nat} {a : Nat → Int32} {b : Nat → Int64} {z : Nat → UInt64} (h : aK t = 2) : cR G cy t i a b z = .inl (cy 2, aN t, .inr (.inl b)) := by
  have h0 : t ≠ 0 ∧ t ≠ 4 ∧ t ≠ 5 ∧ t ≠ 8 := ⟨fun e => by rw [e] at h; exact absurd h (by decide), fun e => by rw [e] at h; exact absurd h (by decide), fun e => by rw [e] at h; exact absurd h (by decide), fun e => by rw [e] at h; exact absurd h (by decide)⟩
  unfold cR
  rw [if_neg h0.1, if_neg h0.2.1, if_neg h0.2.2.1, if_neg h0.2.2.2, if_neg (by omega), if_neg (by omega), if_pos h]
theorem cR_3 {t i : Nat} {a : Nat → Int32} {b : Nat → Int64} {z : Nat → UInt64} (h : aK t = 3) : cR G cy t i a b z = .inl (cy 3, aN t, .inr (.inr (.inr (.inl z)))) := by
  have h0 : t ≠ 0 ∧ t ≠ 4 ∧ t ≠ 5 ∧ t ≠ 8 := ⟨fun e => by rw [e] at h; exact absurd h (by decide), fun e => by rw [e] at h; exact absurd h (by decide), fun e => by rw [e] at h; exact absurd h (by decide), fun e => by rw [e] at h; exact absurd h (by decide)⟩
  unfold cR
  rw [if_neg h0.1, if_neg h0.2.1, if_neg h0.2.2.1, if_neg h0.2.2.2, if_neg (by omega), if_neg (by omega), if_neg (by omega), if_pos h]
theorem cR_4 {t i : Nat} {a : Nat → Int32} {b : Nat → Int64} {z : Nat → UInt64} (h : aK t = 4 ∨ aK t = 5) : cR G cy t i a b z = .inl (cy (aK t), aN t, .inr (.inr (.inr (.inr (fun j => some (G (aR t j).1 (aR t j).2)))))) := by
  have h0 : t ≠ 0 ∧ t ≠ 4 ∧ t ≠ 5 ∧ t ≠ 8 := ⟨fun e => by rw [e] at h; exact absurd h (by decide), fun e => by rw [e] at h; exact absurd h (by decide), fun e => by rw [e] at h; exact absurd h (by decide), fun e => by rw [e] at h; exact absurd h (by decide)⟩
  unfold cR
  rw [if_neg h0.1, if_neg h0.2.1, if_neg h0.2.2.1, if_neg h0.2.2.2, if_neg (by omega), if_neg (by omega), if_neg (by omega), if_neg (by omega)]
set_option maxHeartbeats 1000000 in
theorem s_iald (F : FX p m c cc nL own s args A G cy dC dI) {pc : Nat} {k : PT} (d : decode cc pc = .ok (.iaload, 1)) (h : SO p l e R s m args below meth c cells slots Q nL A G cy dC dI (pc + 1) k) : SO p l e R s m args below meth c cells slots Q nL A G cy dC dI pc (i_iald 0 k) := by
  intro lv st M hw H locs ls hP hS hl
  unfold i_iald at hw
  split at hw
  · rename_i j t0 i0 r
    obtain ⟨h1, h2, h3, h4⟩ := hw
    exact va_iald F.1 F.2.1 F.2.2.2.2.2.1 hP (tOff t0 + i0) 0 (by rw [wl_at h2, cR_0 h1]) rfl h3 d (h _ _ _ h4 H locs ls hP hS hl)
  · exact hw.elim
set_option maxHeartbeats 1000000 in
theorem s_zald (F : FX p m c cc nL own s args A G cy dC dI) {pc : Nat} {k : PT} (d : decode cc pc = .ok (.baload, 1)) (h : SO p l e R s m args below meth c cells slots Q nL A G cy dC dI (pc + 1) k) : SO p l e R s m args below meth c cells slots Q nL A G cy dC dI pc (i_iald 1 k) := by
  intro lv st M hw H locs ls hP hS hl
  unfold i_iald at hw
  split at hw
  · rename_i j t0 i0 r
    obtain ⟨h1, h2, h3, h4⟩ := hw
    exact va_zald F.1 F.2.1 F.2.2.2.2.2.1 hP (tOff t0 + i0) 1 (by rw [wl_at h2, cR_1 h1]) rfl h3 d (h _ _ _ h4 H locs ls hP hS hl)
  · exact hw.elim
set_option maxHeartbeats 1000000 in
theorem s_lald (F : FX p m c cc nL own s args A G cy dC dI) {pc : Nat} {k : PT} (d : decode cc pc = .ok (.laload, 1)) (h : SO p l e R s m args below meth c cells slots Q nL A G cy dC dI (pc + 1) k) : SO p l e R s m args below meth c cells slots Q nL A G cy dC dI pc (i_lald k) := by
  intro lv st M hw H locs ls hP hS hl
  unfold i_lald at hw
  split at hw
  · rename_i j t0 i0 r
    obtain ⟨h1, h2, h3, h4⟩ := hw
    exact va_lald F.1 F.2.1 F.2.2.2.2.2.1 hP (tOff t0 + i0) 2 (by rw [wl_at h2, cR_2 h1]) rfl h3 d (h _ _ _ h4 H locs ls hP hS hl)
  · exact hw.elim
set_option maxHeartbeats 1000000 in
theorem s_dald (F : FX p m c cc nL own s args A G cy dC dI) {pc : Nat} {k : PT} (d : decode cc pc = .ok (.daload, 1)) (h : SO p l e R s m args below meth c cells slots Q nL A G cy dC dI (pc + 1) k) : SO p l e R s m args below meth c cells slots Q nL A G cy dC dI pc (i_dald k) := by
  intro lv st M hw H locs ls hP hS hl
  unfold i_dald at hw
  split at hw
  · rename_i j t0 i0 r
    obtain ⟨h1, h2, h3, h4⟩ := hw
    exact va_dald F.1 F.2.1 F.2.2.2.2.2.1 hP (tOff t0 + i0) 3 (by rw [wl_at h2, cR_3 h1]) rfl h3 d (h _ _ _ h4 H locs ls hP hS hl)
  · exact hw.elim
set_option maxHeartbeats 1000000 in
theorem s_aald (F : FX p m c cc nL own s args A G cy dC dI) {pc : Nat} {k : PT} (d : decode cc pc = .ok (.aaload, 1)) (h : SO p l e R s m args below meth c cells slots Q nL A G cy dC dI (pc + 1) k) : SO p l e R s m args below meth c cells slots Q nL A G cy dC dI pc (i_aald k) := by
  intro lv st M hw H locs ls hP hS hl
  unfold i_aald at hw
  split at hw
  · rename_i j t0 i0 r
    obtain ⟨h1, h2, h3, h4⟩ := hw
    rcases h1 with h1 | h1
    · exact va_aldq (f := fun j => some (G (aR t0 j).1 (aR t0 j).2)) (C := "MappingMoves$Column") F.1 F.2.1 F.2.2.2.2.2.1 hP (tOff t0 + i0) 4 (by rw [wl_at h2, cR_4 (Or.inl h1), h1]) rfl h3 d (h _ _ _ h4 H locs ls hP hS hl)
    · exact va_aldq (f := fun j => some (G (aR t0 j).1 (aR t0 j).2)) (C := "MappingMoves$Part") F.1 F.2.1 F.2.2.2.2.2.1 hP (tOff t0 + i0) 5 (by rw [wl_at h2, cR_4 (Or.inr h1), h1]) rfl h3 d (h _ _ _ h4 H locs ls hP hS hl)
  · exact hw.elim
set_option maxHeartbeats 1000000 in
theorem s_iast (F : FX p m c cc nL own s args A G cy dC dI) {pc : Nat} {k : PT} (d : decode cc pc = .ok (.iastore, 1)) (h : SO p l e R s m args below meth c cells slots Q nL A G cy dC dI (pc + 1) k) : SO p l e R s m args below meth c cells slots Q nL A G cy dC dI pc (i_iast k) := by
  intro lv st M hw H locs ls hP hS hl
  unfold i_iast at hw
  split at hw
  · rename_i v j t0 i0 r
    obtain ⟨h1, h2, h3, h4⟩ := hw
    refine va_iast F.1 F.2.1 F.2.2.2.2.2.1 hP (wl_D F.2.2.2.2.2.2.2 cy M) hS (tOff t0 + i0) 0 (by rw [wl_at h2, cR_0 h1]) rfl h3 d (fun H1 locs1 hP1 _ hS1 => ?_)
    refine h _ _ _ h4 H1 locs1 ls ?_ hS1 hl
    have key : (wl G cy M).set (tOff t0 + i0) (G t0 i0, .inl (cy 0, aN t0, .inl (upd (M.1 t0 i0) j.toNatClampNeg v))) = wl G cy (sI M t0 i0 j.toNatClampNeg v) := by
      refine wl_set h2 ?_ (fun t2 i2 hne => by funext y; simp only [sI]; rw [if_neg (fun e => hne ⟨e.1, e.2.1⟩)]) (fun _ _ _ => rfl) (fun _ _ _ => rfl)
      show cR G cy t0 i0 _ _ _ = _
      rw [cR_0 h1]
      congr 4
      funext y
      simp [sI, upd]
    rw [← key]
    exact hP1
  · exact hw.elim
set_option maxHeartbeats 1000000 in
theorem s_bast (F : FX p m c cc nL own s args A G cy dC dI) {pc : Nat} {k : PT} (d : decode cc pc = .ok (.bastore, 1)) (h : SO p l e R s m args below meth c cells slots Q nL A G cy dC dI (pc + 1) k) : SO p l e R s m args below meth c cells slots Q nL A G cy dC dI pc (i_bast k) := by
  intro lv st M hw H locs ls hP hS hl
  unfold i_bast at hw
  split at hw
  · rename_i v j t0 i0 r
    obtain ⟨h1, h2, h3, h4⟩ := hw
    refine va_zast F.1 F.2.1 F.2.2.2.2.2.1 hP (wl_D F.2.2.2.2.2.2.2 cy M) hS (tOff t0 + i0) 1 (by rw [wl_at h2, cR_1 h1]) rfl h3 d (fun H1 locs1 hP1 _ hS1 => ?_)
    refine h _ _ _ h4 H1 locs1 ls ?_ hS1 hl
    have key : (wl G cy M).set (tOff t0 + i0) (G t0 i0, .inl (cy 1, aN t0, .inl (upd (M.1 t0 i0) j.toNatClampNeg (vp_nar .boolean v)))) = wl G cy (sI M t0 i0 j.toNatClampNeg (vp_nar .boolean v)) := by
      refine wl_set h2 ?_ (fun t2 i2 hne => by funext y; simp only [sI]; rw [if_neg (fun e => hne ⟨e.1, e.2.1⟩)]) (fun _ _ _ => rfl) (fun _ _ _ => rfl)
      show cR G cy t0 i0 _ _ _ = _
      rw [cR_1 h1]
      congr 4
      funext y
      simp [sI, upd]
    rw [← key]
    exact hP1
  · exact hw.elim
set_option maxHeartbeats 1000000 in
theorem s_last (F : FX p m c cc nL own s args A G cy dC dI) {pc : Nat} {k : PT} (d : decode cc pc = .ok (.lastore, 1)) (h : SO p l e R s m args below meth c cells slots Q nL A G cy dC dI (pc + 1) k) : SO p l e R s m args below meth c cells slots Q nL A G cy dC dI pc (i_last k) := by
  intro lv st M hw H locs ls hP hS hl
  unfold i_last at hw
  split at hw
  · rename_i v j t0 i0 r
    obtain ⟨h1, h2, h3, h4⟩ := hw
    refine va_last F.1 F.2.1 F.2.2.2.2.2.1 hP (wl_D F.2.2.2.2.2.2.2 cy M) hS (tOff t0 + i0) 2 (by rw [wl_at h2, cR_2 h1]) rfl h3 d (fun H1 locs1 hP1 _ hS1 => ?_)
    refine h _ _ _ h4 H1 locs1 ls ?_ hS1 hl
    have key : (wl G cy M).set (tOff t0 + i0) (G t0 i0, .inl (cy 2, aN t0, .inr (.inl (vp_updL (M.2.1 t0 i0) j.toNatClampNeg v)))) = wl G cy (sL M t0 i0 j.toNatClampNeg v) := by
      refine wl_set h2 ?_ (fun _ _ _ => rfl) (fun t2 i2 hne => by funext y; simp only [sL]; rw [if_neg (fun e => hne ⟨e.1, e.2.1⟩)]) (fun _ _ _ => rfl)
      show cR G cy t0 i0 _ _ _ = _
      rw [cR_2 h1]
      congr 5
      funext y
      simp [sL, vp_updL]
    rw [← key]
    exact hP1
  · exact hw.elim
set_option maxHeartbeats 1000000 in
theorem s_dast (F : FX p m c cc nL own s args A G cy dC dI) {pc : Nat} {k : PT} (d : decode cc pc = .ok (.dastore, 1)) (h : SO p l e R s m args below meth c cells slots Q nL A G cy dC dI (pc + 1) k) : SO p l e R s m args below meth c cells slots Q nL A G cy dC dI pc (i_dast k) := by
  intro lv st M hw H locs ls hP hS hl
  unfold i_dast at hw
  split at hw
  · rename_i v j t0 i0 r
    obtain ⟨h1, h2, h3, h4⟩ := hw
    refine va_dast F.1 F.2.1 F.2.2.2.2.2.1 hP (wl_D F.2.2.2.2.2.2.2 cy M) hS (tOff t0 + i0) 3 (by rw [wl_at h2, cR_3 h1]) rfl h3 d (fun H1 locs1 hP1 _ hS1 => ?_)
    refine h _ _ _ h4 H1 locs1 ls ?_ hS1 hl
    have key : (wl G cy M).set (tOff t0 + i0) (G t0 i0, .inl (cy 3, aN t0, .inr (.inr (.inr (.inl (vf_upd (M.2.2 t0 i0) j.toNatClampNeg v)))))) = wl G cy (sD M t0 i0 j.toNatClampNeg v) := by
      refine wl_set h2 ?_ (fun _ _ _ => rfl) (fun _ _ _ => rfl) (fun t2 i2 hne => by funext y; simp only [sD]; rw [if_neg (fun e => hne ⟨e.1, e.2.1⟩)])
      show cR G cy t0 i0 _ _ _ = _
      rw [cR_3 h1]
      congr 7
      funext y
      simp [sD, vf_upd]
    rw [← key]
    exact hP1
  · exact hw.elim
set_option maxHeartbeats 1000000 in
theorem s_alen (F : FX p m c cc nL own s args A G cy dC dI) {pc : Nat} {k : PT} (d : decode cc pc = .ok (.arraylength, 1)) (h : SO p l e R s m args below meth c cells slots Q nL A G cy dC dI (pc + 1) k) : SO p l e R s m args below meth c cells slots Q nL A G cy dC dI pc (i_alen k) := by
  intro lv st M hw H locs ls hP hS hl
  unfold i_alen at hw
  split at hw
  · rename_i t0 i0 r
    obtain ⟨h1, h2, h4⟩ := hw
    have key : ∃ (x : vp_A) (ty : FieldType), (wl G cy M)[tOff t0 + i0]? = some (G t0 i0, .inl (cy (aK t0), x)) ∧ (tys cy)[aK t0]? = some (cy (aK t0), ty) ∧ x.1 = aN t0 := by
      rcases (show aK t0 = 0 ∨ aK t0 = 1 ∨ aK t0 = 2 ∨ aK t0 = 3 ∨ aK t0 = 4 ∨ aK t0 = 5 by omega) with q | q | q | q | q | q
      · exact ⟨_, _, by rw [wl_at h2, cR_0 q, q], by rw [q]; rfl, rfl⟩
      · exact ⟨_, _, by rw [wl_at h2, cR_1 q, q], by rw [q]; rfl, rfl⟩
      · exact ⟨_, _, by rw [wl_at h2, cR_2 q, q], by rw [q]; rfl, rfl⟩
      · exact ⟨_, _, by rw [wl_at h2, cR_3 q, q], by rw [q]; rfl, rfl⟩
      · exact ⟨_, _, by rw [wl_at h2, cR_4 (Or.inl q)], by rw [q]; rfl, rfl⟩
      · exact ⟨_, _, by rw [wl_at h2, cR_4 (Or.inr q)], by rw [q]; rfl, rfl⟩
    obtain ⟨x, ty, k1, k2, k3⟩ := key
    exact va_alen F.1 F.2.1 F.2.2.2.2.2.1 hP (tOff t0 + i0) (aK t0) k1 k2 (by rw [k3]) d (h _ _ _ h4 H locs ls hP hS hl)
  · exact hw.elim
set_option maxHeartbeats 1000000 in
theorem s_cpL (F : FX p m c cc nL own s args A G cy dC dI) {pc ix : Nat} {k : PT} (d : decode cc pc = .ok (.invokestatic ix, 3)) (q : Cond.methodLink own ix arraycopyName ∈ lw_all) (hR : 1 ≤ R.frames ∧ 8 + (nativeFrameWords "java/lang/System" "arraycopy" 5 + 11) ≤ R.locals) (h : SO p l e R s m args below meth c cells slots Q nL A G cy dC dI (pc + 3) k) : SO p l e R s m args below meth c cells slots Q nL A G cy dC dI pc (i_cpL k) := by
  intro lv st M hw H locs ls hP hS hl
  unfold i_cpL at hw
  split at hw
  · rename_i n dp t0 i0 sp a1 a2 r
    obtain ⟨h1, h2, h3, h4, h5, h6, h7, h8, h9, h10, h11⟩ := hw
    refine va_copyl F.1 F.2.1 (F.2.2.1.trans hl.1.symm) F.2.2.2.1 (F.2.2.2.2.1 _ q) (F.2.2.2.2.1 _ q275) (F.2.2.2.2.1 _ q274) (F.2.2.2.2.1 _ q13) F.2.2.2.2.2.1 hP (wl_D F.2.2.2.2.2.2.2 cy M) hS (tOff a1 + a2) (tOff t0 + i0) 2 2 (by rw [wl_at h4, cR_2 h2]) (by rw [wl_at h3, cR_2 h1]) rfl rfl rfl h5 h6 h7 h8 h9 (fun _ _ => rfl) hR.1 (by rw [catS_eq]; omega) d (fun H1 locs1 hP1 _ hS1 => ?_)
    refine h _ _ _ h11 H1 locs1 ls ?_ hS1 hl
    have key : (wl G cy M).set (tOff t0 + i0) (G t0 i0, .inl (cy 2, aN t0, .inr (.inl (va_cpy (M.2.1 a1 a2) (M.2.1 t0 i0) sp.toNatClampNeg dp.toNatClampNeg n.toNatClampNeg)))) = wl G cy (rL M t0 i0 (va_cpy (M.2.1 a1 a2) (M.2.1 t0 i0) sp.toNatClampNeg dp.toNatClampNeg n.toNatClampNeg)) := by
      refine wl_set h3 ?_ (fun _ _ _ => rfl) (fun t2 i2 hne => by simp only [rL]; rw [if_neg hne]) (fun _ _ _ => rfl)
      show cR G cy t0 i0 _ _ _ = _
      rw [cR_2 h1]
      simp [rL]
    rw [← key]
    exact hP1
  · exact hw.elim
set_option maxHeartbeats 1000000 in
theorem s_cpD (F : FX p m c cc nL own s args A G cy dC dI) {pc ix : Nat} {k : PT} (d : decode cc pc = .ok (.invokestatic ix, 3)) (q : Cond.methodLink own ix arraycopyName ∈ lw_all) (hR : 1 ≤ R.frames ∧ 8 + (nativeFrameWords "java/lang/System" "arraycopy" 5 + 11) ≤ R.locals) (h : SO p l e R s m args below meth c cells slots Q nL A G cy dC dI (pc + 3) k) : SO p l e R s m args below meth c cells slots Q nL A G cy dC dI pc (i_cpD k) := by
  intro lv st M hw H locs ls hP hS hl
  unfold i_cpD at hw
  split at hw
  · rename_i n dp t0 i0 sp a1 a2 r
    obtain ⟨h1, h2, h3, h4, h5, h6, h7, h8, h9, h10, h11⟩ := hw
    refine va_copyd F.1 F.2.1 (F.2.2.1.trans hl.1.symm) F.2.2.2.1 (F.2.2.2.2.1 _ q) (F.2.2.2.2.1 _ q275) (F.2.2.2.2.1 _ q274) (F.2.2.2.2.1 _ q13) F.2.2.2.2.2.1 hP (wl_D F.2.2.2.2.2.2.2 cy M) hS (tOff a1 + a2) (tOff t0 + i0) 3 3 (by rw [wl_at h4, cR_3 h2]) (by rw [wl_at h3, cR_3 h1]) rfl rfl rfl h5 h6 h7 h8 h9 (fun _ _ => rfl) hR.1 (by rw [catS_eq]; omega) d (fun H1 locs1 hP1 _ hS1 => ?_)
    refine h _ _ _ h11 H1 locs1 ls ?_ hS1 hl
    have key : (wl G cy M).set (tOff t0 + i0) (G t0 i0, .inl (cy 3, aN t0, .inr (.inr (.inr (.inl (va_cpy (M.2.2 a1 a2) (M.2.2 t0 i0) sp.toNatClampNeg dp.toNatClampNeg n.toNatClampNeg)))))) = wl G cy (rD M t0 i0 (va_cpy (M.2.2 a1 a2) (M.2.2 t0 i0) sp.toNatClampNeg dp.toNatClampNeg n.toNatClampNeg)) := by
      refine wl_set h3 ?_ (fun _ _ _ => rfl) (fun _ _ _ => rfl) (fun t2 i2 hne => by simp only [rD]; rw [if_neg hne])
      show cR G cy t0 i0 _ _ _ = _
      rw [cR_3 h1]
      simp [rD]
    rw [← key]
    exact hP1
  · exact hw.elim
set_option maxHeartbeats 1000000 in
theorem s_cut (is : List Nat) {pc : Nat} {k : PT} (h : SO p l e R s m args below meth c cells slots Q nL A G cy dC dI pc k) : SO p l e R s m args below meth c cells slots Q nL A G cy dC dI pc (i_cut is k) := by
  intro lv st M hw H locs ls hP hS hl
  unfold i_cut at hw
  split at hw
  · rename_i lv' hp
    exact h _ _ _ hw H locs ls hP hS (pick_has hl hp)
  · exact hw.elim
/-- contracts: int or boolean, long, nothing comes back -/
def PCW (G : Nat → Nat → Nat) (cy : Nat → ClassId) (dC : Nat → ClassId) (dI : Nat → Nat → Nat) (as : List AV) (M : MM) : Array Value → State → Prop := va_Pc (as.map (cv G)) (fun U => va_P (dC, dI) mcl (wl G cy M) U.heap ∧ va_K (dC, dI) mcl (tys cy) U ∧ NW U)
def QI (G : Nat → Nat → Nat) (cy : Nat → ClassId) (dC : Nat → ClassId) (dI : Nat → Nat → Nat) (post : Option AV → MM → Prop) : Array Value → State → Outcome → State → Prop := va_Qi (fun (r : Int32) (u : MM) => post (some (.inl (.int r))) u) (fun u t => va_P (dC, dI) mcl (wl G cy u) t.heap) (AW G)
def QL (G : Nat → Nat → Nat) (cy : Nat → ClassId) (dC : Nat → ClassId) (dI : Nat → Nat → Nat) (post : Option AV → MM → Prop) : Array Value → State → Outcome → State → Prop := va_Ql (fun (r : Int64) (u : MM) => post (some (.inl (.long r))) u) (fun u t => va_P (dC, dI) mcl (wl G cy u) t.heap) (AW G)
def QV (G : Nat → Nat → Nat) (cy : Nat → ClassId) (dC : Nat → ClassId) (dI : Nat → Nat → Nat) (post : Option AV → MM → Prop) : Array Value → State → Outcome → State → Prop := va_Qv (fun (u : MM) => post none u) (fun u t => va_P (dC, dI) mcl (wl G cy u) t.heap) (AW G)
def CI (l : Launch) (y : MethodName) (ws : List Cond) (rm : Room) (S : SP) : Prop := ∀ (G : Nat → Nat → Nat) (cy dC : Nat → ClassId) (dI : Nat → Nat → Nat), GJ G → ∀ (as : List AV) (M : MM) (post : Option AV → MM → Prop), S as M post → Met l y ws rm (PCW G cy dC dI as M) (QI G cy dC dI post) 0 0 (AW G)
def CL (l : Launch) (y : MethodName) (ws : List Cond) (rm : Room) (S : SP) : Prop := ∀ (G : Nat → Nat → Nat) (cy dC : Nat → ClassId) (dI : Nat → Nat → Nat), GJ G → ∀ (as : List AV) (M : MM) (post : Option AV → MM → Prop), S as M post → Met l y ws rm (PCW G cy dC dI as M) (QL G cy dC dI post) 0 0 (AW G)
def CV (l : Launch) (y : MethodName) (ws : List Cond) (rm : Room) (S : SP) : Prop := ∀ (G : Nat → Nat → Nat) (cy dC : Nat → ClassId) (dI : Nat → Nat → Nat), GJ G → ∀ (as : List AV) (M : MM) (post : Option AV → MM → Prop), S as M post → Met l y ws rm (PCW G cy dC dI as M) (QV G cy dC dI post) 0 0 (AW G)
theorem PCW_blind (as : List AV) (M : MM) : FrameBlind (PCW G cy dC dI as M) := fun a U g mk q => by
  obtain ⟨q0, qP, qK, qN⟩ := q
  exact ⟨q0, qP, va_K.moved (u := U) (U := U.calling g mk a) (Vm.Alike.refl U.vm) qK, NW.same (u := U) (U := U.calling g mk a) rfl qN⟩
theorem s_iret (F : FX p m c cc nL own s args (AW G) G cy dC dI) {pc : Nat} {post : Option AV → MM → Prop} (d : decode cc pc = .ok (.ireturn, 1)) (hr : meth.sig.returnType = some .int) (hlocks : meth.locks = false) : SO p l e R s m args below meth c cells slots (MQ below (QI G cy dC dI post) args s cells slots (AW G)) nL (AW G) G cy dC dI pc (i_iret post) := by
  intro lv st M hw H locs ls hP hS hl
  unfold i_iret at hw
  split at hw
  · rename_i v
    exact W.iret F.1 F.2.1 hr (fun t ht hW => ⟨⟨v, M, rfl, hw, by show va_P _ _ _ t.heap; rw [ht]; exact hP⟩, hS.F ht⟩) hS.2.2 d hlocks
  · exact hw.elim
theorem s_zret (F : FX p m c cc nL own s args (AW G) G cy dC dI) {pc : Nat} {post : Option AV → MM → Prop} (d : decode cc pc = .ok (.ireturn, 1)) (hr : meth.sig.returnType = some .boolean) (hlocks : meth.locks = false) : SO p l e R s m args below meth c cells slots (MQ below (QI G cy dC dI post) args s cells slots (AW G)) nL (AW G) G cy dC dI pc (i_zret post) := by
  intro lv st M hw H locs ls hP hS hl
  unfold i_zret at hw
  split at hw
  · rename_i v
    exact W.zret F.1 F.2.1 hr (by rcases hw.1 with h | h <;> rw [h] <;> decide) (fun t ht hW => ⟨⟨v, M, rfl, hw.2, by show va_P _ _ _ t.heap; rw [ht]; exact hP⟩, hS.F ht⟩) hS.2.2 d hlocks
  · exact hw.elim
theorem s_lret (F : FX p m c cc nL own s args (AW G) G cy dC dI) {pc : Nat} {post : Option AV → MM → Prop} (d : decode cc pc = .ok (.lreturn, 1)) (hr : meth.sig.returnType = some .long) (hlocks : meth.locks = false) : SO p l e R s m args below meth c cells slots (MQ below (QL G cy dC dI post) args s cells slots (AW G)) nL (AW G) G cy dC dI pc (i_lret post) := by
  intro lv st M hw H locs ls hP hS hl
  unfold i_lret at hw
  split at hw
  · rename_i v
    exact W.lret F.1 F.2.1 hr (fun t ht hW => ⟨⟨v, M, rfl, hw, by show va_P _ _ _ t.heap; rw [ht]; exact hP⟩, hS.F ht⟩) hS.2.2 d hlocks
  · exact hw.elim
theorem s_vret (F : FX p m c cc nL own s args (AW G) G cy dC dI) {pc : Nat} {post : Option AV → MM → Prop} (d : decode cc pc = .ok (.return_, 1)) (hr : meth.sig.returnType = none) (hlocks : meth.locks = false) : SO p l e R s m args below meth c cells slots (MQ below (QV G cy dC dI post) args s cells slots (AW G)) nL (AW G) G cy dC dI pc (i_vret post) := by
  intro lv st M hw H locs ls hP hS hl
  unfold i_vret at hw
  split at hw
  · exact W.vret F.1 F.2.1 hr (fun t ht hW => ⟨⟨M, rfl, hw, by show va_P _ _ _ t.heap; rw [ht]; exact hP⟩, hS.F ht⟩) hS.2.2 d hlocks
  · exact hw.elim
set_option maxHeartbeats 1000000 in
theorem s_callSi (F : FX p m c cc nL own s args A G cy dC dI) {pc ix n maxL : Nat} {k : PT} {y : MethodName} {bytes : ByteArray} {ret : Option FieldType} {rm : Room} {S : SP} (d : decode cc pc = .ok (.invokestatic ix, 3)) (hM : CI l y (ws_ y bytes maxL ret) rm S) (hg : GoodIn lw_all (va_wsS own ix y (ws_ y bytes maxL ret))) (hrc : rm.cells = 0 ∧ rm.slots = 0) (hd : y.cls ≠ "java/lang/invoke/MethodHandle" ∧ y.cls ≠ "java/lang/invoke/VarHandle" ∧ (parseMethodDescriptor y.desc).map (fun d => d.parameters.length) = some n) (hR : rm.frames + 1 ≤ R.frames ∧ 8 + (maxL + 11) + rm.locals ≤ R.locals) (hcs : cells ≤ R.cells ∧ slots ≤ R.slots) (h : SO p l e R s m args below meth c cells slots Q nL A G cy dC dI (pc + 3) k) : SO p l e R s m args below meth c cells slots Q nL A G cy dC dI pc (i_call n S k) := by
  intro lv st M hw H locs ls hP hS hl
  unfold i_call at hw
  split at hw
  · rename_i q hq
    obtain ⟨as, r0⟩ := q
    obtain ⟨zs, z1, rfl, z3⟩ := popn_eq G _ _ _ _ _ hq
    rw [List.append_nil] at z3
    subst z3
    obtain ⟨hc8, hS2⟩ := hw
    have hMet := hM G cy dC dI F.2.2.2.2.2.2.2.1 _ M _ hS2
    refine va_calli (va_runS (As := as.map (cv G)) (rest := r0.map (cv G)) ⟨F.1, F.2.1, F.2.2.1, F.2.2.2.1, F.2.2.2.2.1⟩ hMet (va_cwS n F.2.2.2.2.1 hg rfl hrc.1 hrc.2 hd hR) ⟨PCW_blind _ _, fun U hU hW => ⟨rfl, by rw [hU]; exact hP, va_K.moved hW.alike F.2.2.2.2.2.1, NW.warm hW F.2.2.2.2.2.2.1⟩⟩ rfl (by rw [List.length_map, z1]) hl.1 (by simp) (lv_room (by rw [catS_eq]; exact hc8)) d hcs) hS (fun q _ hq => ?_) (fun q hq => ?_) (fun r u t H1 locs1 ht hvm hw hB hz1 hk1 hS1 => ?_)
    · obtain ⟨t9, i9, h9, rfl⟩ := hq; exact F.2.2.2.2.2.2.2.2 _ _ h9
    · obtain ⟨t9, i9, h9, rfl⟩ := hq; exact F.2.2.2.2.2.2.2.2 _ _ h9
    · exact h _ _ _ hw H1 locs1 ls (by rw [← ht]; exact hB) hS1 hl
  · exact hw.elim
theorem s_callVi (F : FX p m c cc nL own s args A G cy dC dI) {pc ix n maxL t ci : Nat} {k : PT} {y : MethodName} {bytes : ByteArray} {ret : Option FieldType} {rm : Room} {S : SP} {C : String} {T : u_T} {N : Nat} (d : decode cc pc = .ok (.invokevirtual ix, 3)) (hM : CI l y (ws_ y bytes maxL ret) rm S) (hg : GoodIn lw_all (wsV own ix C y (ws_ y bytes maxL ret))) (hrc : rm.cells = 0 ∧ rm.slots = 0) (hd : y.cls = C ∧ y.cls ≠ "java/lang/invoke/MethodHandle" ∧ y.cls ≠ "java/lang/invoke/VarHandle" ∧ (parseMethodDescriptor y.desc).map (fun d => d.parameters.length) = some n) (hR : rm.frames + 1 ≤ R.frames ∧ 8 + (maxL + 11) + rm.locals ≤ R.locals) (hcs : cells ≤ R.cells ∧ slots ≤ R.slots) (hc : mcl[ci]? = some (C, T, N)) (hv : ∀ (i : Nat) (a : Nat → Int32) (b : Nat → Int64) (z : Nat → UInt64), ∃ fs : List Value, cR G cy t i a b z = .inr (ci, fs)) (h : SO p l e R s m args below meth c cells slots Q nL A G cy dC dI (pc + 3) k) : SO p l e R s m args below meth c cells slots Q nL A G cy dC dI pc (i_callV n t S k) := by
  intro lv st M hw H locs ls hP hS hl
  unfold i_callV at hw
  split at hw
  · rename_i q hq
    obtain ⟨as, r0⟩ := q
    obtain ⟨zs, z1, rfl, z3⟩ := popn_eq G _ _ _ _ _ hq
    rw [List.append_nil] at z3
    subst z3
    dsimp only at hw
    split at hw
    · rename_i t' i r1
      obtain ⟨rfl, h2, hc8, hS2⟩ := hw
      obtain ⟨fs, e1⟩ := hv i (M.1 t' i) (M.2.1 t' i) (M.2.2 t' i)
      have hMet := hM G cy dC dI F.2.2.2.2.2.2.2.1 _ M _ hS2
      refine va_calli (va_runV (As := as.map (cv G)) (rest := r1.map (cv G)) (b := G t' i) ⟨F.1, F.2.1, F.2.2.1, F.2.2.2.1, F.2.2.2.2.1⟩ hMet (cwV n F.2.2.2.2.1 hg rfl hrc.1 hrc.2 hd hR) ⟨PCW_blind _ _, va_recv F.2.2.2.2.2.1 hP hc (q0 := tOff t' + i) (by rw [wl_at h2, ← e1]), fun U hU hW => ⟨rfl, by rw [hU]; exact hP, va_K.moved hW.alike F.2.2.2.2.2.1, NW.warm hW F.2.2.2.2.2.2.1⟩⟩ rfl (by rw [List.length_map, z1]) hl.1 (by simp [cv]) (lv_room (by rw [catS_eq]; exact hc8)) d hcs) hS (fun q _ hq => ?_) (fun q hq => ?_) (fun r u t H1 locs1 ht hvm hw hB hz1 hk1 hS1 => ?_)
      · obtain ⟨t9, i9, h9, rfl⟩ := hq; exact F.2.2.2.2.2.2.2.2 _ _ h9
      · obtain ⟨t9, i9, h9, rfl⟩ := hq; exact F.2.2.2.2.2.2.2.2 _ _ h9
      · exact h _ _ _ hw H1 locs1 ls (by rw [← ht]; exact hB) hS1 hl
    · exact hw.elim
  · exact hw.elim
set_option maxHeartbeats 1000000 in
theorem s_callSl (F : FX p m c cc nL own s args A G cy dC dI) {pc ix n maxL : Nat} {k : PT} {y : MethodName} {bytes : ByteArray} {ret : Option FieldType} {rm : Room} {S : SP} (d : decode cc pc = .ok (.invokestatic ix, 3)) (hM : CL l y (ws_ y bytes maxL ret) rm S) (hg : GoodIn lw_all (va_wsS own ix y (ws_ y bytes maxL ret))) (hrc : rm.cells = 0 ∧ rm.slots = 0) (hd : y.cls ≠ "java/lang/invoke/MethodHandle" ∧ y.cls ≠ "java/lang/invoke/VarHandle" ∧ (parseMethodDescriptor y.desc).map (fun d => d.parameters.length) = some n) (hR : rm.frames + 1 ≤ R.frames ∧ 8 + (maxL + 11) + rm.locals ≤ R.locals) (hcs : cells ≤ R.cells ∧ slots ≤ R.slots) (h : SO p l e R s m args below meth c cells slots Q nL A G cy dC dI (pc + 3) k) : SO p l e R s m args below meth c cells slots Q nL A G cy dC dI pc (i_call n S k) := by
  intro lv st M hw H locs ls hP hS hl
  unfold i_call at hw
  split at hw
  · rename_i q hq
    obtain ⟨as, r0⟩ := q
    obtain ⟨zs, z1, rfl, z3⟩ := popn_eq G _ _ _ _ _ hq
    rw [List.append_nil] at z3
    subst z3
    obtain ⟨hc8, hS2⟩ := hw
    have hMet := hM G cy dC dI F.2.2.2.2.2.2.2.1 _ M _ hS2
    refine va_calll (va_runS (As := as.map (cv G)) (rest := r0.map (cv G)) ⟨F.1, F.2.1, F.2.2.1, F.2.2.2.1, F.2.2.2.2.1⟩ hMet (va_cwS n F.2.2.2.2.1 hg rfl hrc.1 hrc.2 hd hR) ⟨PCW_blind _ _, fun U hU hW => ⟨rfl, by rw [hU]; exact hP, va_K.moved hW.alike F.2.2.2.2.2.1, NW.warm hW F.2.2.2.2.2.2.1⟩⟩ rfl (by rw [List.length_map, z1]) hl.1 (by simp) (lv_room (by rw [catS_eq]; exact hc8)) d hcs) hS (fun q _ hq => ?_) (fun q hq => ?_) (fun r u t H1 locs1 ht hvm hw hB hz1 hk1 hS1 => ?_)
    · obtain ⟨t9, i9, h9, rfl⟩ := hq; exact F.2.2.2.2.2.2.2.2 _ _ h9
    · obtain ⟨t9, i9, h9, rfl⟩ := hq; exact F.2.2.2.2.2.2.2.2 _ _ h9
    · exact h _ _ _ hw H1 locs1 ls (by rw [← ht]; exact hB) hS1 hl
  · exact hw.elim
theorem s_callVl (F : FX p m c cc nL own s args A G cy dC dI) {pc ix n maxL t ci : Nat} {k : PT} {y : MethodName} {bytes : ByteArray} {ret : Option FieldType} {rm : Room} {S : SP} {C : String} {T : u_T} {N : Nat} (d : decode cc pc = .ok (.invokevirtual ix, 3)) (hM : CL l y (ws_ y bytes maxL ret) rm S) (hg : GoodIn lw_all (wsV own ix C y (ws_ y bytes maxL ret))) (hrc : rm.cells = 0 ∧ rm.slots = 0) (hd : y.cls = C ∧ y.cls ≠ "java/lang/invoke/MethodHandle" ∧ y.cls ≠ "java/lang/invoke/VarHandle" ∧ (parseMethodDescriptor y.desc).map (fun d => d.parameters.length) = some n) (hR : rm.frames + 1 ≤ R.frames ∧ 8 + (maxL + 11) + rm.locals ≤ R.locals) (hcs : cells ≤ R.cells ∧ slots ≤ R.slots) (hc : mcl[ci]? = some (C, T, N)) (hv : ∀ (i : Nat) (a : Nat → Int32) (b : Nat → Int64) (z : Nat → UInt64), ∃ fs : List Value, cR G cy t i a b z = .inr (ci, fs)) (h : SO p l e R s m args below meth c cells slots Q nL A G cy dC dI (pc + 3) k) : SO p l e R s m args below meth c cells slots Q nL A G cy dC dI pc (i_callV n t S k) := by
  intro lv st M hw H locs ls hP hS hl
  unfold i_callV at hw
  split at hw
  · rename_i q hq
    obtain ⟨as, r0⟩ := q
    obtain ⟨zs, z1, rfl, z3⟩ := popn_eq G _ _ _ _ _ hq
    rw [List.append_nil] at z3
    subst z3
    dsimp only at hw
    split at hw
    · rename_i t' i r1
      obtain ⟨rfl, h2, hc8, hS2⟩ := hw
      obtain ⟨fs, e1⟩ := hv i (M.1 t' i) (M.2.1 t' i) (M.2.2 t' i)
      have hMet := hM G cy dC dI F.2.2.2.2.2.2.2.1 _ M _ hS2
      refine va_calll (va_runV (As := as.map (cv G)) (rest := r1.map (cv G)) (b := G t' i) ⟨F.1, F.2.1, F.2.2.1, F.2.2.2.1, F.2.2.2.2.1⟩ hMet (cwV n F.2.2.2.2.1 hg rfl hrc.1 hrc.2 hd hR) ⟨PCW_blind _ _, va_recv F.2.2.2.2.2.1 hP hc (q0 := tOff t' + i) (by rw [wl_at h2, ← e1]), fun U hU hW => ⟨rfl, by rw [hU]; exact hP, va_K.moved hW.alike F.2.2.2.2.2.1, NW.warm hW F.2.2.2.2.2.2.1⟩⟩ rfl (by rw [List.length_map, z1]) hl.1 (by simp [cv]) (lv_room (by rw [catS_eq]; exact hc8)) d hcs) hS (fun q _ hq => ?_) (fun q hq => ?_) (fun r u t H1 locs1 ht hvm hw hB hz1 hk1 hS1 => ?_)
      · obtain ⟨t9, i9, h9, rfl⟩ := hq; exact F.2.2.2.2.2.2.2.2 _ _ h9
      · obtain ⟨t9, i9, h9, rfl⟩ := hq; exact F.2.2.2.2.2.2.2.2 _ _ h9
      · exact h _ _ _ hw H1 locs1 ls (by rw [← ht]; exact hB) hS1 hl
    · exact hw.elim
  · exact hw.elim
set_option maxHeartbeats 1000000 in
theorem s_callSv (F : FX p m c cc nL own s args A G cy dC dI) {pc ix n maxL : Nat} {k : PT} {y : MethodName} {bytes : ByteArray} {ret : Option FieldType} {rm : Room} {S : SP} (d : decode cc pc = .ok (.invokestatic ix, 3)) (hM : CV l y (ws_ y bytes maxL ret) rm S) (hg : GoodIn lw_all (va_wsS own ix y (ws_ y bytes maxL ret))) (hrc : rm.cells = 0 ∧ rm.slots = 0) (hd : y.cls ≠ "java/lang/invoke/MethodHandle" ∧ y.cls ≠ "java/lang/invoke/VarHandle" ∧ (parseMethodDescriptor y.desc).map (fun d => d.parameters.length) = some n) (hR : rm.frames + 1 ≤ R.frames ∧ 8 + (maxL + 11) + rm.locals ≤ R.locals) (hcs : cells ≤ R.cells ∧ slots ≤ R.slots) (h : SO p l e R s m args below meth c cells slots Q nL A G cy dC dI (pc + 3) k) : SO p l e R s m args below meth c cells slots Q nL A G cy dC dI pc (i_call n S k) := by
  intro lv st M hw H locs ls hP hS hl
  unfold i_call at hw
  split at hw
  · rename_i q hq
    obtain ⟨as, r0⟩ := q
    obtain ⟨zs, z1, rfl, z3⟩ := popn_eq G _ _ _ _ _ hq
    rw [List.append_nil] at z3
    subst z3
    obtain ⟨hc8, hS2⟩ := hw
    have hMet := hM G cy dC dI F.2.2.2.2.2.2.2.1 _ M _ hS2
    refine va_callv (va_runS (As := as.map (cv G)) (rest := r0.map (cv G)) ⟨F.1, F.2.1, F.2.2.1, F.2.2.2.1, F.2.2.2.2.1⟩ hMet (va_cwS n F.2.2.2.2.1 hg rfl hrc.1 hrc.2 hd hR) ⟨PCW_blind _ _, fun U hU hW => ⟨rfl, by rw [hU]; exact hP, va_K.moved hW.alike F.2.2.2.2.2.1, NW.warm hW F.2.2.2.2.2.2.1⟩⟩ rfl (by rw [List.length_map, z1]) hl.1 (by simp) (lv_room (by rw [catS_eq]; exact hc8)) d hcs) hS (fun q _ hq => ?_) (fun q hq => ?_) (fun u t H1 locs1 ht hvm hw hB hz1 hk1 hS1 => ?_)
    · obtain ⟨t9, i9, h9, rfl⟩ := hq; exact F.2.2.2.2.2.2.2.2 _ _ h9
    · obtain ⟨t9, i9, h9, rfl⟩ := hq; exact F.2.2.2.2.2.2.2.2 _ _ h9
    · exact h _ _ _ hw H1 locs1 ls (by rw [← ht]; exact hB) hS1 hl
  · exact hw.elim
theorem s_callVv (F : FX p m c cc nL own s args A G cy dC dI) {pc ix n maxL t ci : Nat} {k : PT} {y : MethodName} {bytes : ByteArray} {ret : Option FieldType} {rm : Room} {S : SP} {C : String} {T : u_T} {N : Nat} (d : decode cc pc = .ok (.invokevirtual ix, 3)) (hM : CV l y (ws_ y bytes maxL ret) rm S) (hg : GoodIn lw_all (wsV own ix C y (ws_ y bytes maxL ret))) (hrc : rm.cells = 0 ∧ rm.slots = 0) (hd : y.cls = C ∧ y.cls ≠ "java/lang/invoke/MethodHandle" ∧ y.cls ≠ "java/lang/invoke/VarHandle" ∧ (parseMethodDescriptor y.desc).map (fun d => d.parameters.length) = some n) (hR : rm.frames + 1 ≤ R.frames ∧ 8 + (maxL + 11) + rm.locals ≤ R.locals) (hcs : cells ≤ R.cells ∧ slots ≤ R.slots) (hc : mcl[ci]? = some (C, T, N)) (hv : ∀ (i : Nat) (a : Nat → Int32) (b : Nat → Int64) (z : Nat → UInt64), ∃ fs : List Value, cR G cy t i a b z = .inr (ci, fs)) (h : SO p l e R s m args below meth c cells slots Q nL A G cy dC dI (pc + 3) k) : SO p l e R s m args below meth c cells slots Q nL A G cy dC dI pc (i_callV n t S k) := by
  intro lv st M hw H locs ls hP hS hl
  unfold i_callV at hw
  split at hw
  · rename_i q hq
    obtain ⟨as, r0⟩ := q
    obtain ⟨zs, z1, rfl, z3⟩ := popn_eq G _ _ _ _ _ hq
    rw [List.append_nil] at z3
    subst z3
    dsimp only at hw
    split at hw
    · rename_i t' i r1
      obtain ⟨rfl, h2, hc8, hS2⟩ := hw
      obtain ⟨fs, e1⟩ := hv i (M.1 t' i) (M.2.1 t' i) (M.2.2 t' i)
      have hMet := hM G cy dC dI F.2.2.2.2.2.2.2.1 _ M _ hS2
      refine va_callv (va_runV (As := as.map (cv G)) (rest := r1.map (cv G)) (b := G t' i) ⟨F.1, F.2.1, F.2.2.1, F.2.2.2.1, F.2.2.2.2.1⟩ hMet (cwV n F.2.2.2.2.1 hg rfl hrc.1 hrc.2 hd hR) ⟨PCW_blind _ _, va_recv F.2.2.2.2.2.1 hP hc (q0 := tOff t' + i) (by rw [wl_at h2, ← e1]), fun U hU hW => ⟨rfl, by rw [hU]; exact hP, va_K.moved hW.alike F.2.2.2.2.2.1, NW.warm hW F.2.2.2.2.2.2.1⟩⟩ rfl (by rw [List.length_map, z1]) hl.1 (by simp [cv]) (lv_room (by rw [catS_eq]; exact hc8)) d hcs) hS (fun q _ hq => ?_) (fun q hq => ?_) (fun u t H1 locs1 ht hvm hw hB hz1 hk1 hS1 => ?_)
      · obtain ⟨t9, i9, h9, rfl⟩ := hq; exact F.2.2.2.2.2.2.2.2 _ _ h9
      · obtain ⟨t9, i9, h9, rfl⟩ := hq; exact F.2.2.2.2.2.2.2.2 _ _ h9
      · exact h _ _ _ hw H1 locs1 ls (by rw [← ht]; exact hB) hS1 hl
    · exact hw.elim
  · exact hw.elim
end MS
