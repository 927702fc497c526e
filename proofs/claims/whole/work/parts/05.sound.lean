/-! THE ABSTRACT MACHINE IS SOUND: the world, the rows by groups -/
theorem am_tie_d {oc nL : Nat} {b : ByteArray} {ret : Option FieldType} {pc a nx : Nat} {i : Instr} {v : Value} {tb : List (Int32 × Nat)} (h : am_tie oc b nL ret (pc, i, a, v, nx, tb) = true) : decode b pc = .ok (i, am_ln i pc nx) ∧ nx = pc + am_ln i pc nx ∧ am_tie2 oc nL ret pc i a v tb = true := by
  simp only [am_tie, Bool.and_eq_true, decide_eq_true_eq] at h
  exact ⟨h.1.1, Nat.eq_of_beq_eq_true h.1.2, h.2⟩
theorem am_find_in {cd : am_C} {pc : Nat} {q : am_I} (h : am_find cd pc = some q) : (pc, q) ∈ cd := by
  induction cd with
  | nil => simp [am_find] at h
  | cons r t ih =>
    obtain ⟨p, q2⟩ := r
    simp only [am_find] at h
    cases hb : Nat.beq p pc with
    | true =>
      rw [hb] at h
      simp only [cond_true, Option.some.injEq] at h
      rw [Nat.eq_of_beq_eq_true hb, h]
      exact List.mem_cons_self
    | false =>
      rw [hb] at h
      exact List.mem_cons_of_mem _ (ih h)
/-- concrete values: a reference is a place in the world -/
def am_nv (ad : Nat → Nat) : Value := if ad 1201 = 0 then .null else .ref (ad 1200)
theorem am_nv_cat (ad : Nat → Nat) : (am_nv ad).category = 1 := by unfold am_nv; split <;> rfl
/-- the null of the machine stands for the one reference that nobody looks into -/
def am_cv (ad : Nat → Nat) : Value → Value
  | .ref a => .ref (ad a)
  | .null => am_nv ad
  | v => v
theorem am_cv_cat (ad : Nat → Nat) (v : Value) : (am_cv ad v).category = v.category := by
  cases v with
  | null => exact am_nv_cat ad
  | _ => rfl
theorem am_cv_sum (ad : Nat → Nat) (r : List Value) : ((r.map (am_cv ad)).map fun v => v.category).sum = am_sum r := by
  unfold am_sum
  rw [List.map_map]
  congr 1
  exact List.map_congr_left (fun v _ => am_cv_cat ad v)
def am_cell (ad : Nat → Nat) (tc : Nat → ClassId) (x : am_X) (i : Nat) : am_Sh → va_E
  | .inl (ci, fs) => .inr (ci, fs.map (fun q => am_cv ad (am_fv x q)))
  | .inr (1, n) => .inl (tc 1, n, .inr (.inl (x.2.2.2 i)))
  | .inr (t, n) => .inl (tc t, n, .inl (x.2.2.1 i))
def am_W (ad : Nat → Nat) (tc : Nat → ClassId) (x : am_X) : va_W := am_shp.mapIdx (fun i s => (ad i, am_cell ad tc x i s))
def am_tys (tc : Nat → ClassId) : List (ClassId × FieldType) := [(tc 0, .int), (tc 1, .long), (tc 2, .boolean), (tc 3, .char)]
/-- fields that are no references: their number is 32 times the cell's, and their place -/
def am_shp1 (i : Nat) : am_Sh → Bool
  | .inl (ci, fs) => decide (ci < 9) && (List.range fs.length).all (fun k => match fs[k]? with | some (0, _) => true | some (_, id) => decide (id = 32 * i + k ∧ k < 32) | none => true) && decide (fs.length = (am_cc ci).2.2)
  | .inr (t, _) => decide (t < 4)
theorem am_shp_ok : (List.range 45).all (fun i => match am_shp[i]? with | some s => am_shp1 i s | none => true) = true := by decide +kernel
theorem am_shp_len : am_shp.length = 45 := by decide +kernel
theorem am_W_at (ad : Nat → Nat) (tc : Nat → ClassId) (x : am_X) (i : Nat) : (am_W ad tc x)[i]? = (am_shp[i]?).map (fun s => (ad i, am_cell ad tc x i s)) := by
  simp [am_W, List.getElem?_mapIdx]
theorem am_shp_at {i : Nat} {s : am_Sh} (h : am_shp[i]? = some s) : am_shp1 i s = true := by
  have hi : i < 45 := by rw [← am_shp_len]; exact (List.getElem?_eq_some_iff.mp h).1
  have := List.all_eq_true.mp am_shp_ok i (List.mem_range.mpr hi)
  rw [h] at this
  exact this
theorem am_shp_fld {i ci k : Nat} {fs : List (Nat × Nat)} {kd id : Nat} (h : am_shp[i]? = some (.inl (ci, fs))) (hk : fs[k]? = some (kd, id)) (h0 : kd ≠ 0) : id = 32 * i + k ∧ k < 32 := by
  have h1 := am_shp_at h
  simp only [am_shp1, Bool.and_eq_true, List.all_eq_true, List.mem_range, decide_eq_true_eq] at h1
  have h2 := h1.1.2 k (List.getElem?_eq_some_iff.mp hk).1
  rw [hk] at h2
  match kd, h0, h2 with
  | 0, h0, _ => exact absurd rfl h0
  | _ + 1, _, h2 => simpa using h2
theorem am_fld_eq {ci k i : Nat} {q : Nat × Nat} (h : am_fld ci k i = some q) : ∃ fs, am_shp[i]? = some (.inl (ci, fs)) ∧ fs[k]? = some q := by
  unfold am_fld at h
  rw [am_at_eq] at h
  split at h
  · rename_i c2 fs he
    cases hb : Nat.beq c2 ci with
    | false => rw [hb] at h; cases h
    | true =>
      rw [hb] at h
      obtain rfl := Nat.eq_of_beq_eq_true hb
      exact ⟨fs, he, by rw [← am_at_eq]; exact h⟩
  · cases h
theorem am_arr_eq {i : Nat} {q : Nat × Nat} (h : am_arr i = some q) : am_shp[i]? = some (.inr q) := by
  unfold am_arr at h
  rw [am_at_eq] at h
  split at h
  · rename_i q2 he
    cases h
    exact he
  · cases h
theorem am_W_obj {ad : Nat → Nat} {tc : Nat → ClassId} {x : am_X} {i ci : Nat} {fs : List (Nat × Nat)} (h : am_shp[i]? = some (.inl (ci, fs))) : (am_W ad tc x)[i]? = some (ad i, .inr (ci, fs.map (fun q => am_cv ad (am_fv x q)))) := by
  rw [am_W_at, h]; rfl
theorem am_W_arrI {ad : Nat → Nat} {tc : Nat → ClassId} {x : am_X} {i t n : Nat} (h : am_arr i = some (t, n)) (ht : t ≠ 1) : (am_W ad tc x)[i]? = some (ad i, .inl (tc t, n, .inl (x.2.2.1 i))) := by
  rw [am_W_at, am_arr_eq h]
  match t, ht with
  | 0, _ => rfl
  | 1, ht => exact absurd rfl ht
  | _ + 2, _ => rfl
theorem am_W_arrL {ad : Nat → Nat} {tc : Nat → ClassId} {x : am_X} {i n : Nat} (h : am_arr i = some (1, n)) : (am_W ad tc x)[i]? = some (ad i, .inl (tc 1, n, .inr (.inl (x.2.2.2 i)))) := by
  rw [am_W_at, am_arr_eq h]; rfl
/-- writes -/
theorem am_W_set {ad : Nat → Nat} {tc : Nat → ClassId} {x x' : am_X} {i : Nat} {s : am_Sh} {e : va_E} (h : am_shp[i]? = some s) (he : am_cell ad tc x' i s = e) (ho : ∀ j s2, am_shp[j]? = some s2 → j ≠ i → am_cell ad tc x' j s2 = am_cell ad tc x j s2) : (am_W ad tc x).set i (ad i, e) = am_W ad tc x' := by
  apply List.ext_getElem?
  intro j
  rw [am_W_at, List.getElem?_set]
  by_cases hj : i = j
  · subst hj
    rw [if_pos rfl, h]
    have hl : i < (am_W ad tc x).length := by
      have := (List.getElem?_eq_some_iff.mp h).1
      simpa [am_W] using this
    rw [if_pos hl]
    simp [he]
  · rw [if_neg hj, am_W_at]
    cases hs : am_shp[j]? with
    | none => rfl
    | some s2 => simp [ho j s2 hs (fun q => hj q.symm)]
theorem am_W_sA {ad : Nat → Nat} {tc : Nat → ClassId} {x : am_X} {i t n : Nat} {f : Nat → Int32} (h : am_arr i = some (t, n)) (ht : t ≠ 1) : (am_W ad tc x).set i (ad i, .inl (tc t, n, .inl f)) = am_W ad tc (am_sA x i f) := by
  refine am_W_set (am_arr_eq h) ?_ ?_
  · match t, ht with
    | 0, _ => simp [am_cell, am_sA, am_up]
    | 1, ht => exact absurd rfl ht
    | _ + 2, _ => simp [am_cell, am_sA, am_up]
  · intro j s2 _ hj
    match s2 with
    | .inl (ci, fs) => rfl
    | .inr (0, n) => simp [am_cell, am_sA, am_up, hj]
    | .inr (1, n) => simp [am_cell, am_sA, am_up]
    | .inr (_ + 2, n) => simp [am_cell, am_sA, am_up, hj]
theorem am_W_sB {ad : Nat → Nat} {tc : Nat → ClassId} {x : am_X} {i n : Nat} {f : Nat → Int64} (h : am_arr i = some (1, n)) : (am_W ad tc x).set i (ad i, .inl (tc 1, n, .inr (.inl f))) = am_W ad tc (am_sB x i f) := by
  refine am_W_set (am_arr_eq h) ?_ ?_
  · simp [am_cell, am_sB, am_up]
  · intro j s2 _ hj
    match s2 with
    | .inl (ci, fs) => rfl
    | .inr (0, n) => rfl
    | .inr (1, n) => simp [am_cell, am_sB, am_up, hj]
    | .inr (_ + 2, n) => rfl
theorem am_fs_set {ad : Nat → Nat} {x x' : am_X} {i ci k : Nat} {fs : List (Nat × Nat)} {kd id : Nat} {v : Value} (h : am_shp[i]? = some (.inl (ci, fs))) (hk : fs[k]? = some (kd, id)) (hv : am_cv ad (am_fv x' (kd, id)) = v) (ho : ∀ q : Nat × Nat, (q.1 = 0 ∨ q.2 ≠ id) → am_fv x' q = am_fv x q) (h0 : kd ≠ 0) : (fs.map (fun q => am_cv ad (am_fv x q))).set k v = fs.map (fun q => am_cv ad (am_fv x' q)) := by
  apply List.ext_getElem?
  intro j
  rw [List.getElem?_set, List.getElem?_map, List.getElem?_map]
  by_cases hj : k = j
  · subst hj
    have hl := (List.getElem?_eq_some_iff.mp hk).1
    rw [if_pos rfl, if_pos (by simpa using hl), hk]
    simp [hv]
  · rw [if_neg hj]
    cases hq : fs[j]? with
    | none => rfl
    | some q =>
      obtain ⟨kd2, id2⟩ := q
      simp only [Option.map_some]
      rw [ho]
      by_cases hz : kd2 = 0
      · exact Or.inl hz
      · right
        have h1 := am_shp_fld h hk h0
        have h2 := am_shp_fld h hq hz
        show id2 ≠ id
        omega
theorem am_W_fld {ad : Nat → Nat} {tc : Nat → ClassId} {x x' : am_X} {i ci k : Nat} {fs : List (Nat × Nat)} {kd id : Nat} {v : Value} (h : am_shp[i]? = some (.inl (ci, fs))) (hk : fs[k]? = some (kd, id)) (hv : am_cv ad (am_fv x' (kd, id)) = v) (ho : ∀ q : Nat × Nat, (q.1 = 0 ∨ q.2 ≠ id) → am_fv x' q = am_fv x q) (h0 : kd ≠ 0) (ha : x'.2.2 = x.2.2) : (am_W ad tc x).set i (ad i, .inr (ci, (fs.map (fun q => am_cv ad (am_fv x q))).set k v)) = am_W ad tc x' := by
  refine am_W_set h ?_ ?_
  · rw [am_fs_set h hk hv ho h0]; rfl
  · intro j s2 hs hj
    match s2, hs with
    | .inl (c2, fs2), hs =>
      show Sum.inr (c2, _) = Sum.inr (c2, _)
      refine congrArg (fun z => (Sum.inr (c2, z) : va_E)) (List.map_congr_left fun q hq => ?_)
      rw [ho]
      by_cases hz : q.1 = 0
      · exact Or.inl hz
      · right
        obtain ⟨k2, hk2⟩ := List.mem_iff_getElem?.mp hq
        have h1 := am_shp_fld h hk h0
        have h2 := am_shp_fld (kd := q.1) (id := q.2) hs hk2 hz
        omega
    | .inr (0, n), _ => simp [am_cell, ha]
    | .inr (1, n), _ => simp [am_cell, ha]
    | .inr (_ + 2, n), _ => simp [am_cell, ha]
theorem am_W_uI {ad : Nat → Nat} {tc : Nat → ClassId} {x : am_X} {i ci k : Nat} {fs : List (Nat × Nat)} {kd id : Nat} {y : Int32} (h : am_shp[i]? = some (.inl (ci, fs))) (hk : fs[k]? = some (kd, id)) (hd : kd = 1 ∨ kd = 3) : (am_W ad tc x).set i (ad i, .inr (ci, (fs.map (fun q => am_cv ad (am_fv x q))).set k (.int y))) = am_W ad tc (am_uI x id y) := by
  refine am_W_fld h hk ?_ ?_ (by rcases hd with rfl | rfl <;> decide) rfl
  · rcases hd with rfl | rfl <;> simp [am_fv, am_uI, am_up, am_cv]
  · intro q hq
    obtain ⟨k2, id2⟩ := q
    match k2, hq with
    | 0, _ => rfl
    | 1, hq => have : id2 ≠ id := by simpa using hq
               simp [am_fv, am_uI, am_up, this]
    | 2, _ => rfl
    | n + 3, hq => have : id2 ≠ id := by simpa using hq
                   simp [am_fv, am_uI, am_up, this]
theorem am_W_uL {ad : Nat → Nat} {tc : Nat → ClassId} {x : am_X} {i ci k : Nat} {fs : List (Nat × Nat)} {id : Nat} {y : Int64} (h : am_shp[i]? = some (.inl (ci, fs))) (hk : fs[k]? = some (2, id)) : (am_W ad tc x).set i (ad i, .inr (ci, (fs.map (fun q => am_cv ad (am_fv x q))).set k (.long y))) = am_W ad tc (am_uL x id y) := by
  refine am_W_fld h hk ?_ ?_ (by decide) rfl
  · simp [am_fv, am_uL, am_up, am_cv]
  · intro q hq
    obtain ⟨k2, id2⟩ := q
    match k2, hq with
    | 0, _ => rfl
    | 1, _ => rfl
    | 2, hq => have : id2 ≠ id := by simpa using hq
               simp [am_fv, am_uL, am_up, this]
    | n + 3, _ => rfl
theorem am_W_D {A : Nat → Prop} {ad : Nat → Nat} {tc : Nat → ClassId} {x x' : am_X} (h : va_D A (am_W ad tc x)) : va_D A (am_W ad tc x') := by
  have key : ∀ (i : Nat) (q : Nat × va_E), (am_W ad tc x')[i]? = some q → ∃ q2, (am_W ad tc x)[i]? = some q2 ∧ q2.1 = q.1 := by
    intro i q hq
    rw [am_W_at] at hq
    cases hs : am_shp[i]? with
    | none => rw [hs] at hq; cases hq
    | some s =>
      rw [hs] at hq
      cases hq
      exact ⟨(ad i, am_cell ad tc x i s), by rw [am_W_at, hs]; rfl, rfl⟩
  refine ⟨fun i j p q hp hq e => ?_, fun i q hq => ?_⟩
  · obtain ⟨p2, h1, e1⟩ := key i p hp
    obtain ⟨q2, h2, e2⟩ := key j q hq
    exact h.1 i j p2 q2 h1 h2 (by rw [e1, e2]; exact e)
  · obtain ⟨q2, h2, e2⟩ := key i q hq
    rw [← e2]
    exact h.2 i q2 h2
/-- locals -/
theorem am_ent_mem (l : am_L) (n i : Nat) (v : Value) : (i, v) ∈ am_ent n l ↔ ∃ k, i = n + k ∧ l[k]? = some (some v) := by
  induction l generalizing n with
  | nil => simp [am_ent]
  | cons o t ih =>
    cases o with
    | none =>
      rw [am_ent, ih]
      constructor
      · rintro ⟨k, e, h⟩; exact ⟨k + 1, by omega, by simpa using h⟩
      · rintro ⟨k, e, h⟩
        cases k with
        | zero => simp at h
        | succ k => exact ⟨k, by omega, by simpa using h⟩
    | some w =>
      rw [am_ent, List.mem_cons, ih]
      constructor
      · rintro (h | ⟨k, e, h⟩)
        · cases h; exact ⟨0, rfl, rfl⟩
        · exact ⟨k + 1, by omega, by simpa using h⟩
      · rintro ⟨k, e, h⟩
        cases k with
        | zero => left; simp at h; rw [e, h]; rfl
        | succ k => exact Or.inr ⟨k, by omega, by simpa using h⟩
def am_cl (ad : Nat → Nat) (ls : am_L) : am_L := ls.map (Option.map (am_cv ad))
/-- the slots hold the known locals -/
def am_has (ad : Nat → Nat) (sl : Array Slot) (nL : Nat) (ls : am_L) : Prop := lv_has sl nL (am_ent 0 (am_cl ad ls))
theorem am_has_at {ad : Nat → Nat} {sl : Array Slot} {nL : Nat} {ls : am_L} (h : am_has ad sl nL ls) {i : Nat} {v : Value} (hi : am_at ls i = some (some v)) : sl[i]? = some (.val (am_cv ad v)) := by
  refine h.2.2 (i, am_cv ad v) ((am_ent_mem _ _ _ _).mpr ⟨i, by omega, ?_⟩)
  rw [am_at_eq] at hi
  simp [am_cl, hi]
theorem am_has_sub {ad : Nat → Nat} {sl : Array Slot} {nL : Nat} {ls ls' : am_L} (h : am_has ad sl nL ls) (hs : ∀ (i : Nat) (v : Value), ls'[i]? = some (some v) → ls[i]? = some (some v)) : am_has ad sl nL ls' := by
  refine ⟨h.1, h.2.1, fun q hq => ?_⟩
  obtain ⟨i, v⟩ := q
  obtain ⟨k, e, hk⟩ := (am_ent_mem _ _ _ _).mp hq
  refine h.2.2 (i, v) ((am_ent_mem _ _ _ _).mpr ⟨k, e, ?_⟩)
  simp only [am_cl, List.getElem?_map] at hk ⊢
  cases hl : ls'[k]? with
  | none => rw [hl] at hk; cases hk
  | some o =>
    cases o with
    | none => rw [hl] at hk; cases hk
    | some w => rw [hs k w hl]; rw [hl] at hk; exact hk
theorem am_le_at : ∀ (a b : am_L), am_le a b → ∀ (i : Nat) (v : Value), a[i]? = some (some v) → b[i]? = some (some v)
  | [], _, _, i, v, h => by simp at h
  | none :: t, [], hl, i, v, h => by
    cases i with
    | zero => simp at h
    | succ i => exact absurd (am_le_at t [] hl i v (by simpa using h)) (by simp)
  | some _ :: _, [], hl, _, _, _ => by simp [am_le] at hl
  | none :: t, o :: u, hl, i, v, h => by
    cases i with
    | zero => simp at h
    | succ i => simpa using am_le_at t u (by simpa [am_le] using hl) i v (by simpa using h)
  | some w :: t, o :: u, hl, i, v, h => by
    simp only [am_le] at hl
    cases i with
    | zero => simp at h; rw [hl.1, h]; rfl
    | succ i => simpa using am_le_at t u hl.2 i v (by simpa using h)
theorem am_c2_some {o : Option Value} {w : Value} (h : am_c2 o = some w) : o = some w ∧ ¬ w.category = 2 := by
  match o with
  | none => simp [am_c2] at h
  | some (.int _) | some (.float _) | some .null | some (.ref _) | some (.retAddr _) => simp [am_c2] at h; subst h; simp [Value.category]
  | some (.long _) => simp [am_c2] at h
  | some (.double _) => simp [am_c2] at h
theorem am_set1_at : ∀ (l : am_L) (n : Nat) (v : Value) (i : Nat) (w : Value), (am_set1 l n v)[i]? = some (some w) → (i = n ∧ w = v) ∨ (l[i]? = some (some w) ∧ i ≠ n ∧ ¬ (i + 1 = n ∧ w.category = 2))
  | [], _, _, i, w, h => by simp [am_set1] at h
  | o :: t, 0, v, i, w, h => by
    cases i with
    | zero => left; simp [am_set1] at h; exact ⟨rfl, h.symm⟩
    | succ i => right; refine ⟨by simpa [am_set1] using h, by omega, by omega⟩
  | [o], 1, v, i, w, h => by simp [am_set1] at h
  | o :: o2 :: t, 1, v, i, w, h => by
    simp only [am_set1] at h
    match i, h with
    | 0, h =>
      right
      obtain ⟨h1, h2⟩ := am_c2_some (by simpa using h)
      exact ⟨by simp [h1], by omega, fun q => h2 q.2⟩
    | 1, h => left; simp at h; exact ⟨rfl, h.symm⟩
    | i + 2, h => right; exact ⟨by simpa using h, by omega, by omega⟩
  | o :: t, n + 2, v, i, w, h => by
    simp only [am_set1] at h
    cases i with
    | zero => right; exact ⟨by simpa using h, by omega, by omega⟩
    | succ i =>
      rcases am_set1_at t (n + 1) v i w (by simpa using h) with ⟨a, b⟩ | ⟨a, b, c⟩
      · left; exact ⟨by omega, b⟩
      · right; exact ⟨by simpa using a, by omega, fun q => c ⟨by omega, q.2⟩⟩
theorem am_set2_at : ∀ (l : am_L) (n : Nat) (v : Value) (i : Nat) (w : Value), (am_set2 l n v)[i]? = some (some w) → (i = n ∧ w = v) ∨ (l[i]? = some (some w) ∧ i ≠ n ∧ i ≠ n + 1 ∧ ¬ (i + 1 = n ∧ w.category = 2))
  | [], _, _, i, w, h => by simp [am_set2] at h
  | [_], _, _, i, w, h => by simp [am_set2] at h
  | _ :: _ :: t, 0, v, i, w, h => by
    simp only [am_set2] at h
    match i, h with
    | 0, h => left; simp at h; exact ⟨rfl, h.symm⟩
    | 1, h => simp at h
    | i + 2, h => right; exact ⟨by simpa using h, by omega, by omega, by omega⟩
  | [_, _], 1, v, i, w, h => by simp [am_set2] at h
  | o :: _ :: _ :: t, 1, v, i, w, h => by
    simp only [am_set2] at h
    match i, h with
    | 0, h =>
      right
      obtain ⟨h1, h2⟩ := am_c2_some (by simpa using h)
      exact ⟨by simp [h1], by omega, by omega, fun q => h2 q.2⟩
    | 1, h => left; simp at h; exact ⟨rfl, h.symm⟩
    | 2, h => simp at h
    | i + 3, h => right; exact ⟨by simpa using h, by omega, by omega, by omega⟩
  | o :: o2 :: t, n + 2, v, i, w, h => by
    simp only [am_set2] at h
    cases i with
    | zero => right; exact ⟨by simpa using h, by omega, by omega, by omega⟩
    | succ i =>
      rcases am_set2_at (o2 :: t) (n + 1) v i w (by simpa using h) with ⟨a, b⟩ | ⟨a, b, c, d⟩
      · left; exact ⟨by omega, b⟩
      · right; exact ⟨by simpa using a, by omega, by omega, fun q => d ⟨by omega, q.2⟩⟩
theorem am_has_set1 {ad : Nat → Nat} {sl : Array Slot} {nL : Nat} {ls : am_L} {n : Nat} {v : Value} (h : lv_has sl nL ((n, am_cv ad v) :: (am_ent 0 (am_cl ad ls)).filter (fun q => !(q.1 == n) && !(q.1 + 1 == n && q.2.category == 2)))) : am_has ad sl nL (am_set1 ls n v) := by
  refine ⟨h.1, h.2.1, fun q hq => h.2.2 q ?_⟩
  obtain ⟨i, w⟩ := q
  obtain ⟨k, e, hk⟩ := (am_ent_mem _ _ _ _).mp hq
  simp only [Nat.zero_add] at e
  subst e
  simp only [am_cl, List.getElem?_map, Option.map_eq_some_iff] at hk
  obtain ⟨o, h1, h2⟩ := hk
  obtain ⟨w0, rfl, rfl⟩ := h2
  rcases am_set1_at _ _ _ _ _ h1 with ⟨a, b⟩ | ⟨a, b, c⟩
  · rw [a, b]; exact List.mem_cons_self
  · refine List.mem_cons_of_mem _ (List.mem_filter.mpr ⟨(am_ent_mem _ _ _ _).mpr ⟨i, by omega, by simp [am_cl, a]⟩, ?_⟩)
    simp only [am_cv_cat, Bool.and_eq_true, Bool.not_eq_true', beq_eq_false_iff_ne, ne_eq, Bool.and_eq_false_iff]
    refine ⟨b, ?_⟩
    by_cases z : i + 1 = n
    · exact Or.inr fun q => c ⟨z, q⟩
    · exact Or.inl z
theorem am_has_set2 {ad : Nat → Nat} {sl : Array Slot} {nL : Nat} {ls : am_L} {n : Nat} {v : Value} (h : lv_has sl nL ((n, am_cv ad v) :: (am_ent 0 (am_cl ad ls)).filter (fun q => !(q.1 == n) && (!(q.1 == n + 1) && !(q.1 + 1 == n && q.2.category == 2))))) : am_has ad sl nL (am_set2 ls n v) := by
  refine ⟨h.1, h.2.1, fun q hq => h.2.2 q ?_⟩
  obtain ⟨i, w⟩ := q
  obtain ⟨k, e, hk⟩ := (am_ent_mem _ _ _ _).mp hq
  simp only [Nat.zero_add] at e
  subst e
  simp only [am_cl, List.getElem?_map, Option.map_eq_some_iff] at hk
  obtain ⟨o, h1, h2⟩ := hk
  obtain ⟨w0, rfl, rfl⟩ := h2
  rcases am_set2_at _ _ _ _ _ h1 with ⟨a, b⟩ | ⟨a, b, b2, c⟩
  · rw [a, b]; exact List.mem_cons_self
  · refine List.mem_cons_of_mem _ (List.mem_filter.mpr ⟨(am_ent_mem _ _ _ _).mpr ⟨i, by omega, by simp [am_cl, a]⟩, ?_⟩)
    simp only [am_cv_cat, Bool.and_eq_true, Bool.not_eq_true', beq_eq_false_iff_ne, ne_eq, Bool.and_eq_false_iff]
    refine ⟨b, b2, ?_⟩
    by_cases z : i + 1 = n
    · exact Or.inr fun q => c ⟨z, q⟩
    · exact Or.inl z
