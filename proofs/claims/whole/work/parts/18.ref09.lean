noncomputable def G_X8_garden  (x : am_X) : Option (Int32 × am_X) := (match G_X8_read  x with | none => none | some (r1, x2) => some (r1, (am_uI x2 869 0)))
theorem A_X8_garden (d : Nat)  {x : am_X} {res : Int32 × am_X} (hF : G_X8_garden  x = some res) : am_T (d + 5) mX8_garden [.ref 27] x (fun ro y => ro = some (.int res.1) ∧ res.2 = y) := by
  refine am_T.of rfl ?_
  show am_Rr (d + 4) kX8_garden (0, [some (.ref 27), none], [], x) _
  unfold G_X8_garden at hF
  refine am_Rr.go 1 (σ' := (1, [some (.ref 27), none], [.ref 27], x)) rfl ?_
  cases g3 : G_X8_read  x with
  | none => rw [g3] at hF; cases hF
  | some q_ =>
    obtain ⟨r1, x2⟩ := q_
    rw [g3] at hF
    dsimp only at hF
    refine am_Rr.call (pc := 4) (ls := [some (.ref 27), none]) (st := []) rfl (A_X8_read d g3) ?_
    rintro _ _ ⟨rfl, rfl⟩
    show am_Rr _ _ (4, [some (.ref 27), none], [.int r1], x2) _
    refine am_Rr.go 5 (σ' := (11, [some (.ref 27), some (.int r1)], [.int r1], (am_uI x2 869 0))) rfl ?_
    obtain rfl := Option.some.inj hF
    exact am_Rr.ret (v := some (.int r1)) (x := (am_uI x2 869 0)) rfl (by trivial) ⟨rfl, rfl⟩
noncomputable def G_X8_steps (a : Int32) (x : am_X) : Option (Int32 × am_X) := (match G_X8_isNoSquare a x with | none => none | some (r1, x2) => (if r1 = 0 then (match G_X8_walkFrom ((x2.2.2.1 29) 0) x2 with | none => none | some (_, x6) => (if 0 ≤ a.toInt ∧ a.toInt < 36 then (if ((x6.2.2.1 38) a.toNatClampNeg) = 100000 then some ((-9 : Int32), x6) else some (((x6.2.2.1 38) a.toNatClampNeg), x6)) else none)) else (match G_X8_no (-1 : Int32) x2 with | none => none | some (r10, x11) => some (r10, x11))))
theorem A_X8_steps (d : Nat) {a : Int32} {x : am_X} {res : Int32 × am_X} (hF : G_X8_steps a x = some res) : am_T (d + 5) mX8_steps [.ref 27, .int a] x (fun ro y => ro = some (.int res.1) ∧ res.2 = y) := by
  refine am_T.of rfl ?_
  show am_Rr (d + 4) kX8_steps (0, [some (.ref 27), some (.int a)], [], x) _
  unfold G_X8_steps at hF
  refine am_Rr.go 1 (σ' := (1, [some (.ref 27), some (.int a)], [.int a], x)) rfl ?_
  cases g3 : G_X8_isNoSquare a x with
  | none => rw [g3] at hF; cases hF
  | some q_ =>
    obtain ⟨r1, x2⟩ := q_
    rw [g3] at hF
    dsimp only at hF
    refine am_Rr.call (pc := 4) (ls := [some (.ref 27), some (.int a)]) (st := []) rfl (A_X8_isNoSquare (d + 2) g3) ?_
    rintro _ _ ⟨rfl, rfl⟩
    show am_Rr _ _ (4, [some (.ref 27), some (.int a)], [.int r1], x2) _
    refine am_Rr.go 1 (σ' := (if r1 = 0 then 13 else 7, [some (.ref 27), some (.int a)], [], x2)) rfl ?_
    refine am_Rr.ite (fun h4 => ?_) (fun h4 => ?_)
    · rw [if_pos h4] at hF
      refine am_Rr.go 4 (σ' := (19, [some (.ref 27), some (.int a)], [.int 0, .ref 29, .ref 27], x2)) rfl ?_
      refine am_Rr.chk (σ' := (20, [some (.ref 27), some (.int a)], [.int ((x2.2.2.1 29) 0), .ref 27], x2)) rfl (by unfold vp_in; decide) ?_
      cases g7 : G_X8_walkFrom ((x2.2.2.1 29) 0) x2 with
      | none => rw [g7] at hF; cases hF
      | some q_ =>
        obtain ⟨u_, x6⟩ := q_
        rw [g7] at hF
        dsimp only at hF
        refine am_Rr.call (pc := 23) (ls := [some (.ref 27), some (.int a)]) (st := []) rfl (A_X8_walkFrom d g7) ?_
        rintro _ _ ⟨rfl, rfl⟩
        show am_Rr _ _ (23, [some (.ref 27), some (.int a)], [], x6) _
        refine am_Rr.go 3 (σ' := (28, [some (.ref 27), some (.int a)], [.int a, .ref 38], x6)) rfl ?_
        by_cases c8 : 0 ≤ a.toInt ∧ a.toInt < 36
        · rw [if_pos c8] at hF
          refine am_Rr.chk (σ' := (29, [some (.ref 27), some (.int a)], [.int ((x6.2.2.1 38) a.toNatClampNeg)], x6)) rfl (by exact vp_in_iff.mpr c8) ?_
          refine am_Rr.go 2 (σ' := (if ((x6.2.2.1 38) a.toNatClampNeg) = 100000 then 34 else 39, [some (.ref 27), some (.int a)], [], x6)) rfl ?_
          refine am_Rr.ite (fun h9 => ?_) (fun h9 => ?_)
          · rw [if_pos h9] at hF
            refine am_Rr.go 2 (σ' := (45, [some (.ref 27), some (.int a)], [.int (-9)], x6)) rfl ?_
            obtain rfl := Option.some.inj hF
            exact am_Rr.ret (v := some (.int (-9))) (x := x6) rfl (by trivial) ⟨rfl, rfl⟩
          · rw [if_neg h9] at hF
            refine am_Rr.go 3 (σ' := (44, [some (.ref 27), some (.int a)], [.int a, .ref 38], x6)) rfl ?_
            refine am_Rr.chk (σ' := (45, [some (.ref 27), some (.int a)], [.int ((x6.2.2.1 38) a.toNatClampNeg)], x6)) rfl (by exact vp_in_iff.mpr c8) ?_
            obtain rfl := Option.some.inj hF
            exact am_Rr.ret (v := some (.int ((x6.2.2.1 38) a.toNatClampNeg))) (x := x6) rfl (by trivial) ⟨rfl, rfl⟩
        · rw [if_neg c8] at hF
          cases hF
    · rw [if_neg h4] at hF
      refine am_Rr.go 2 (σ' := (9, [some (.ref 27), some (.int a)], [.int (-1), .ref 27], x2)) rfl ?_
      cases g12 : G_X8_no (-1 : Int32) x2 with
      | none => rw [g12] at hF; cases hF
      | some q_ =>
        obtain ⟨r10, x11⟩ := q_
        rw [g12] at hF
        dsimp only at hF
        refine am_Rr.call (pc := 12) (ls := [some (.ref 27), some (.int a)]) (st := []) rfl (A_X8_no (d + 2) g12) ?_
        rintro _ _ ⟨rfl, rfl⟩
        show am_Rr _ _ (12, [some (.ref 27), some (.int a)], [.int r10], x11) _
        obtain rfl := Option.some.inj hF
        exact am_Rr.ret (v := some (.int r10)) (x := x11) rfl (by trivial) ⟨rfl, rfl⟩
noncomputable def L_X8_mayBeAt_12 : Nat → Int32 → Int32 → am_X → Option (Int32 × Int32 × am_X)
  | 0, _, _, _ => none
  | n + 1, v1, v2, x => (if (36 : Int32) ≤ v2 then some (v1, v2, x) else (if 0 ≤ v2.toInt ∧ v2.toInt < 36 then (if ¬ ((x.2.2.1 29) 1) = 0 then (if (v1 / ((x.2.2.1 29) 1)) < ((x.2.2.1 38) v2.toNatClampNeg) then L_X8_mayBeAt_12 n v1 (v2 + 1) (am_sA x 39 (upd (x.2.2.1 39) v2.toNatClampNeg 0)) else L_X8_mayBeAt_12 n v1 (v2 + 1) (am_sA x 39 (upd (x.2.2.1 39) v2.toNatClampNeg 1))) else none) else none))
theorem L_X8_mayBeAt_12_ok (d : Nat) (post : Option Value → am_X → Prop) (w1 : Int32) (w2 : Int32) (y : am_X) : ∀ (n : Nat) (v1 : Int32) (v2 : Int32) (x : am_X), L_X8_mayBeAt_12 n v1 v2 x = some (w1, w2, y) → am_Rr (d + 4) kX8_mayBeAt (52, [some (.ref 27), some (.int w1), some (.int w2)], [], y) post → am_Rr (d + 4) kX8_mayBeAt (12, [some (.ref 27), some (.int v1), some (.int v2)], [], x) post := by
  intro n
  induction n with
  | zero =>
    intro v1 v2 x hF
    cases hF
  | succ n ih =>
    intro v1 v2 x hF hk
    rw [L_X8_mayBeAt_12] at hF
    refine am_Rr.go 3 (σ' := (if (36 : Int32) ≤ v2 then 52 else 18, [some (.ref 27), some (.int v1), some (.int v2)], [], x)) rfl ?_
    refine am_Rr.ite (fun h4 => ?_) (fun h4 => ?_)
    · rw [if_pos h4] at hF
      cases hF
      exact hk
    · rw [if_neg h4] at hF
      refine am_Rr.go 6 (σ' := (28, [some (.ref 27), some (.int v1), some (.int v2)], [.int v2, .ref 38, .int v2, .ref 39], x)) rfl ?_
      by_cases c5 : 0 ≤ v2.toInt ∧ v2.toInt < 36
      · rw [if_pos c5] at hF
        refine am_Rr.chk (σ' := (29, [some (.ref 27), some (.int v1), some (.int v2)], [.int ((x.2.2.1 38) v2.toNatClampNeg), .int v2, .ref 39], x)) rfl (by exact vp_in_iff.mpr c5) ?_
        refine am_Rr.go 4 (σ' := (35, [some (.ref 27), some (.int v1), some (.int v2)], [.int 1, .ref 29, .int v1, .int ((x.2.2.1 38) v2.toNatClampNeg), .int v2, .ref 39], x)) rfl ?_
        refine am_Rr.chk (σ' := (36, [some (.ref 27), some (.int v1), some (.int v2)], [.int ((x.2.2.1 29) 1), .int v1, .int ((x.2.2.1 38) v2.toNatClampNeg), .int v2, .ref 39], x)) rfl (by unfold vp_in; decide) ?_
        by_cases c6 : ¬ ((x.2.2.1 29) 1) = 0
        · rw [if_pos c6] at hF
          refine am_Rr.chk (σ' := (37, [some (.ref 27), some (.int v1), some (.int v2)], [.int (v1 / ((x.2.2.1 29) 1)), .int ((x.2.2.1 38) v2.toNatClampNeg), .int v2, .ref 39], x)) rfl (by exact c6) ?_
          refine am_Rr.go 1 (σ' := (if (v1 / ((x.2.2.1 29) 1)) < ((x.2.2.1 38) v2.toNatClampNeg) then 44 else 40, [some (.ref 27), some (.int v1), some (.int v2)], [.int v2, .ref 39], x)) rfl ?_
          refine am_Rr.ite (fun h7 => ?_) (fun h7 => ?_)
          · rw [if_pos h7] at hF
            refine am_Rr.go 1 (σ' := (45, [some (.ref 27), some (.int v1), some (.int v2)], [.int 0, .int v2, .ref 39], x)) rfl ?_
            refine am_Rr.chk (σ' := (46, [some (.ref 27), some (.int v1), some (.int v2)], [], (am_sA x 39 (upd (x.2.2.1 39) v2.toNatClampNeg 0)))) rfl (by exact vp_in_iff.mpr c5) ?_
            refine am_Rr.go 2 (σ' := (12, [some (.ref 27), some (.int v1), some (.int (v2 + 1))], [], (am_sA x 39 (upd (x.2.2.1 39) v2.toNatClampNeg 0)))) rfl ?_
            exact ih _ _ _ hF hk
          · rw [if_neg h7] at hF
            refine am_Rr.go 2 (σ' := (45, [some (.ref 27), some (.int v1), some (.int v2)], [.int 1, .int v2, .ref 39], x)) rfl ?_
            refine am_Rr.chk (σ' := (46, [some (.ref 27), some (.int v1), some (.int v2)], [], (am_sA x 39 (upd (x.2.2.1 39) v2.toNatClampNeg 1)))) rfl (by exact vp_in_iff.mpr c5) ?_
            refine am_Rr.go 2 (σ' := (12, [some (.ref 27), some (.int v1), some (.int (v2 + 1))], [], (am_sA x 39 (upd (x.2.2.1 39) v2.toNatClampNeg 1)))) rfl ?_
            exact ih _ _ _ hF hk
        · rw [if_neg c6] at hF
          cases hF
      · rw [if_neg c5] at hF
        cases hF
noncomputable def G_X8_mayBeAt (a : Int32) (x : am_X) : Option (Unit × am_X) := (match G_X8_walkFrom ((x.2.2.1 29) 0) x with | none => none | some (_, x2) => (match L_X8_mayBeAt_12 1000 a (0 : Int32) x2 with | none => none | some (v9, v10, x8) => some ((), x8)))
theorem A_X8_mayBeAt (d : Nat) {a : Int32} {x : am_X} {res : Unit × am_X} (hF : G_X8_mayBeAt a x = some res) : am_T (d + 5) mX8_mayBeAt [.ref 27, .int a] x (fun ro y => ro = none ∧ res.2 = y) := by
  refine am_T.of rfl ?_
  show am_Rr (d + 4) kX8_mayBeAt (0, [some (.ref 27), some (.int a), none], [], x) _
  unfold G_X8_mayBeAt at hF
  refine am_Rr.go 4 (σ' := (6, [some (.ref 27), some (.int a), none], [.int 0, .ref 29, .ref 27], x)) rfl ?_
  refine am_Rr.chk (σ' := (7, [some (.ref 27), some (.int a), none], [.int ((x.2.2.1 29) 0), .ref 27], x)) rfl (by unfold vp_in; decide) ?_
  cases g3 : G_X8_walkFrom ((x.2.2.1 29) 0) x with
  | none => rw [g3] at hF; cases hF
  | some q_ =>
    obtain ⟨u_, x2⟩ := q_
    rw [g3] at hF
    dsimp only at hF
    refine am_Rr.call (pc := 10) (ls := [some (.ref 27), some (.int a), none]) (st := []) rfl (A_X8_walkFrom d g3) ?_
    rintro _ _ ⟨rfl, rfl⟩
    show am_Rr _ _ (10, [some (.ref 27), some (.int a), none], [], x2) _
    refine am_Rr.go 2 (σ' := (12, [some (.ref 27), some (.int a), some (.int 0)], [], x2)) rfl ?_
    cases g11 : L_X8_mayBeAt_12 1000 a (0 : Int32) x2 with
    | none => rw [g11] at hF; cases hF
    | some q_ =>
      obtain ⟨v9, v10, x8⟩ := q_
      rw [g11] at hF
      dsimp only at hF
      refine L_X8_mayBeAt_12_ok d _ v9 v10 x8 _ _ _ _ g11 ?_
      obtain rfl := Option.some.inj hF
      exact am_Rr.ret (v := none) (x := x8) rfl (by trivial) ⟨rfl, rfl⟩
noncomputable def L_X8_minutesOut_15 : Nat → Int32 → Int32 → am_X → Option (Int32 × Int32 × am_X)
  | 0, _, _, _ => none
  | n + 1, v1, v2, x => (if (36 : Int32) ≤ v2 then some (v1, v2, x) else (match G_X8_kindOf v2 x with | none => none | some (r5, x6) => (if r5 = 5 then (if 0 ≤ v2.toInt ∧ v2.toInt < 36 then L_X8_minutesOut_15 n (if ((x6.2.2.1 38) v2.toNatClampNeg) < v1 then ((x6.2.2.1 38) v2.toNatClampNeg) else v1) (v2 + 1) x6 else none) else L_X8_minutesOut_15 n v1 (v2 + 1) x6)))
theorem L_X8_minutesOut_15_ok (d : Nat) (post : Option Value → am_X → Prop) (w1 : Int32) (w2 : Int32) (y : am_X) : ∀ (n : Nat) (v1 : Int32) (v2 : Int32) (x : am_X), L_X8_minutesOut_15 n v1 v2 x = some (w1, w2, y) → am_Rr (d + 4) kX8_minutesOut (51, [some (.ref 27), some (.int w1), some (.int w2)], [], y) post → am_Rr (d + 4) kX8_minutesOut (15, [some (.ref 27), some (.int v1), some (.int v2)], [], x) post := by
  intro n
  induction n with
  | zero =>
    intro v1 v2 x hF
    cases hF
  | succ n ih =>
    intro v1 v2 x hF hk
    rw [L_X8_minutesOut_15] at hF
    refine am_Rr.go 3 (σ' := (if (36 : Int32) ≤ v2 then 51 else 21, [some (.ref 27), some (.int v1), some (.int v2)], [], x)) rfl ?_
    refine am_Rr.ite (fun h4 => ?_) (fun h4 => ?_)
    · rw [if_pos h4] at hF
      cases hF
      exact hk
    · rw [if_neg h4] at hF
      refine am_Rr.go 2 (σ' := (23, [some (.ref 27), some (.int v1), some (.int v2)], [.int v2, .ref 27], x)) rfl ?_
      cases g7 : G_X8_kindOf v2 x with
      | none => rw [g7] at hF; cases hF
      | some q_ =>
        obtain ⟨r5, x6⟩ := q_
        rw [g7] at hF
        dsimp only at hF
        refine am_Rr.call (pc := 26) (ls := [some (.ref 27), some (.int v1), some (.int v2)]) (st := []) rfl (A_X8_kindOf (d + 2) g7) ?_
        rintro _ _ ⟨rfl, rfl⟩
        show am_Rr _ _ (26, [some (.ref 27), some (.int v1), some (.int v2)], [.int r5], x6) _
        refine am_Rr.go 2 (σ' := (if r5 = 5 then 30 else 43, [some (.ref 27), some (.int v1), some (.int v2)], [], x6)) rfl ?_
        refine am_Rr.ite (fun h8 => ?_) (fun h8 => ?_)
        · rw [if_pos h8] at hF
          refine am_Rr.go 4 (σ' := (36, [some (.ref 27), some (.int v1), some (.int v2)], [.int v2, .ref 38, .int v1], x6)) rfl ?_
          by_cases c9 : 0 ≤ v2.toInt ∧ v2.toInt < 36
          · rw [if_pos c9] at hF
            refine am_Rr.chk (σ' := (37, [some (.ref 27), some (.int v1), some (.int v2)], [.int ((x6.2.2.1 38) v2.toNatClampNeg), .int v1], x6)) rfl (by exact vp_in_iff.mpr c9) ?_
            refine am_Rr.go 5 (σ' := (15, [some (.ref 27), some (.int (if ((x6.2.2.1 38) v2.toNatClampNeg) < v1 then ((x6.2.2.1 38) v2.toNatClampNeg) else v1)), some (.int (v2 + 1))], [], x6)) rfl ?_
            exact ih _ _ _ hF hk
          · rw [if_neg c9] at hF
            cases hF
        · rw [if_neg h8] at hF
          refine am_Rr.go 4 (σ' := (15, [some (.ref 27), some (.int v1), some (.int (v2 + 1))], [], x6)) rfl ?_
          exact ih _ _ _ hF hk
noncomputable def G_X8_minutesOut  (x : am_X) : Option (Int32 × am_X) := (match G_X8_walkFrom ((x.2.2.1 29) 0) x with | none => none | some (_, x2) => (match L_X8_minutesOut_15 1000 (100000 : Int32) (0 : Int32) x2 with | none => none | some (v11, v12, x10) => some (v11, x10)))
theorem A_X8_minutesOut (d : Nat)  {x : am_X} {res : Int32 × am_X} (hF : G_X8_minutesOut  x = some res) : am_T (d + 5) mX8_minutesOut [.ref 27] x (fun ro y => ro = some (.int res.1) ∧ res.2 = y) := by
  refine am_T.of rfl ?_
  show am_Rr (d + 4) kX8_minutesOut (0, [some (.ref 27), none, none], [], x) _
  unfold G_X8_minutesOut at hF
  refine am_Rr.go 4 (σ' := (6, [some (.ref 27), none, none], [.int 0, .ref 29, .ref 27], x)) rfl ?_
  refine am_Rr.chk (σ' := (7, [some (.ref 27), none, none], [.int ((x.2.2.1 29) 0), .ref 27], x)) rfl (by unfold vp_in; decide) ?_
  cases g3 : G_X8_walkFrom ((x.2.2.1 29) 0) x with
  | none => rw [g3] at hF; cases hF
  | some q_ =>
    obtain ⟨u_, x2⟩ := q_
    rw [g3] at hF
    dsimp only at hF
    refine am_Rr.call (pc := 10) (ls := [some (.ref 27), none, none]) (st := []) rfl (A_X8_walkFrom d g3) ?_
    rintro _ _ ⟨rfl, rfl⟩
    show am_Rr _ _ (10, [some (.ref 27), none, none], [], x2) _
    refine am_Rr.go 4 (σ' := (15, [some (.ref 27), some (.int 100000), some (.int 0)], [], x2)) rfl ?_
    cases g13 : L_X8_minutesOut_15 1000 (100000 : Int32) (0 : Int32) x2 with
    | none => rw [g13] at hF; cases hF
    | some q_ =>
      obtain ⟨v11, v12, x10⟩ := q_
      rw [g13] at hF
      dsimp only at hF
      refine L_X8_minutesOut_15_ok d _ v11 v12 x10 _ _ _ _ g13 ?_
      refine am_Rr.go 1 (σ' := (52, [some (.ref 27), some (.int v11), some (.int v12)], [.int v11], x10)) rfl ?_
      obtain rfl := Option.some.inj hF
      exact am_Rr.ret (v := some (.int v11)) (x := x10) rfl (by trivial) ⟨rfl, rfl⟩
noncomputable def L_X8_looks_9 : Nat → Int32 → Int32 → Int32 → Int32 → Int32 → am_X → Option (Int32 × Int32 × Int32 × Int32 × Int32 × am_X)
  | 0, _, _, _, _, _, _ => none
  | n + 1, v1, v2, v3, v4, v5, x => (if (36 : Int32) ≤ v5 then some (v1, v2, v3, v4, v5, x) else (if 0 ≤ v5.toInt ∧ v5.toInt < 36 then (if ((x.2.2.1 39) v5.toNatClampNeg) = 0 then (if ((x.2.2.1 39) v5.toNatClampNeg) = 0 then L_X8_looks_9 n v1 v2 v3 v4 (v5 + 1) x else (if v3 = (-9) then L_X8_looks_9 n v1 v2 v5 (0 : Int32) (v5 + 1) x else (if v4 ≤ 0 then L_X8_looks_9 n v1 v2 v3 v4 (v5 + 1) x else L_X8_looks_9 n v1 v2 v5 (0 : Int32) (v5 + 1) x))) else (if 0 ≤ v2.toInt ∧ v2.toInt < 3 then (match G_X8_waits v1 v5 ((x.2.2.1 41) v2.toNatClampNeg) x with | none => none | some (r8, x9) => (if ((x9.2.2.1 39) v5.toNatClampNeg) = 0 then L_X8_looks_9 n v1 v2 v3 v4 (v5 + 1) x9 else (if v3 = (-9) then L_X8_looks_9 n v1 v2 v5 r8 (v5 + 1) x9 else (if v4 ≤ r8 then L_X8_looks_9 n v1 v2 v3 v4 (v5 + 1) x9 else L_X8_looks_9 n v1 v2 v5 r8 (v5 + 1) x9)))) else none)) else none))
theorem L_X8_looks_9_ok (d : Nat) (post : Option Value → am_X → Prop) (w1 : Int32) (w2 : Int32) (w3 : Int32) (w4 : Int32) (w5 : Int32) (y : am_X) : ∀ (n : Nat) (v1 : Int32) (v2 : Int32) (v3 : Int32) (v4 : Int32) (v5 : Int32) (x : am_X), L_X8_looks_9 n v1 v2 v3 v4 v5 x = some (w1, w2, w3, w4, w5, y) → am_Rr (d + 4) kX8_looks (81, [some (.ref 27), some (.int w1), some (.int w2), some (.int w3), some (.int w4), some (.int w5), none], [], y) post → am_Rr (d + 4) kX8_looks (9, [some (.ref 27), some (.int v1), some (.int v2), some (.int v3), some (.int v4), some (.int v5), none], [], x) post := by
  intro n
  induction n with
  | zero =>
    intro v1 v2 v3 v4 v5 x hF
    cases hF
  | succ n ih =>
    intro v1 v2 v3 v4 v5 x hF hk
    rw [L_X8_looks_9] at hF
    refine am_Rr.go 3 (σ' := (if (36 : Int32) ≤ v5 then 81 else 16, [some (.ref 27), some (.int v1), some (.int v2), some (.int v3), some (.int v4), some (.int v5), none], [], x)) rfl ?_
    refine am_Rr.ite (fun h1 => ?_) (fun h1 => ?_)
    · rw [if_pos h1] at hF
      cases hF
      exact hk
    · rw [if_neg h1] at hF
      refine am_Rr.go 3 (σ' := (22, [some (.ref 27), some (.int v1), some (.int v2), some (.int v3), some (.int v4), some (.int v5), none], [.int v5, .ref 39], x)) rfl ?_
      by_cases c2 : 0 ≤ v5.toInt ∧ v5.toInt < 36
      · rw [if_pos c2] at hF
        refine am_Rr.chk (σ' := (23, [some (.ref 27), some (.int v1), some (.int v2), some (.int v3), some (.int v4), some (.int v5), none], [.int ((x.2.2.1 39) v5.toNatClampNeg)], x)) rfl (by exact vp_in_iff.mpr c2) ?_
        refine am_Rr.go 1 (σ' := (if ((x.2.2.1 39) v5.toNatClampNeg) = 0 then 42 else 26, [some (.ref 27), some (.int v1), some (.int v2), some (.int v3), some (.int v4), some (.int v5), none], [], x)) rfl ?_
        refine am_Rr.ite (fun h3 => ?_) (fun h3 => ?_)
        · rw [if_pos h3] at hF
          refine am_Rr.go 5 (σ' := (51, [some (.ref 27), some (.int v1), some (.int v2), some (.int v3), some (.int v4), some (.int v5), some (.int 0)], [.int v5, .ref 39], x)) rfl ?_
          refine am_Rr.chk (σ' := (52, [some (.ref 27), some (.int v1), some (.int v2), some (.int v3), some (.int v4), some (.int v5), some (.int 0)], [.int ((x.2.2.1 39) v5.toNatClampNeg)], x)) rfl (by exact vp_in_iff.mpr c2) ?_
          refine am_Rr.go 1 (σ' := (if ((x.2.2.1 39) v5.toNatClampNeg) = 0 then 75 else 55, [some (.ref 27), some (.int v1), some (.int v2), some (.int v3), some (.int v4), some (.int v5), some (.int 0)], [], x)) rfl ?_
          refine am_Rr.ite (fun h4 => ?_) (fun h4 => ?_)
          · rw [if_pos h4] at hF
            refine am_Rr.go 2 (σ' := (9, [some (.ref 27), some (.int v1), some (.int v2), some (.int v3), some (.int v4), some (.int (v5 + 1)), some (.int 0)], [], x)) rfl ?_
            refine am_Rr.weak (ls0 := [some (.ref 27), some (.int v1), some (.int v2), some (.int v3), some (.int v4), some (.int (v5 + 1)), none]) (by simp [am_le]) ?_
            exact ih _ _ _ _ _ _ hF hk
          · rw [if_neg h4] at hF
            refine am_Rr.go 3 (σ' := (if v3 = (-9) then 68 else 61, [some (.ref 27), some (.int v1), some (.int v2), some (.int v3), some (.int v4), some (.int v5), some (.int 0)], [], x)) rfl ?_
            refine am_Rr.ite (fun h5 => ?_) (fun h5 => ?_)
            · rw [if_pos h5] at hF
              refine am_Rr.go 6 (σ' := (9, [some (.ref 27), some (.int v1), some (.int v2), some (.int v5), some (.int 0), some (.int (v5 + 1)), some (.int 0)], [], x)) rfl ?_
              refine am_Rr.weak (ls0 := [some (.ref 27), some (.int v1), some (.int v2), some (.int v5), some (.int 0), some (.int (v5 + 1)), none]) (by simp [am_le]) ?_
              exact ih _ _ _ _ _ _ hF hk
            · rw [if_neg h5] at hF
              refine am_Rr.go 3 (σ' := (if v4 ≤ 0 then 75 else 68, [some (.ref 27), some (.int v1), some (.int v2), some (.int v3), some (.int v4), some (.int v5), some (.int 0)], [], x)) rfl ?_
              refine am_Rr.ite (fun h6 => ?_) (fun h6 => ?_)
              · rw [if_pos h6] at hF
                refine am_Rr.go 2 (σ' := (9, [some (.ref 27), some (.int v1), some (.int v2), some (.int v3), some (.int v4), some (.int (v5 + 1)), some (.int 0)], [], x)) rfl ?_
                refine am_Rr.weak (ls0 := [some (.ref 27), some (.int v1), some (.int v2), some (.int v3), some (.int v4), some (.int (v5 + 1)), none]) (by simp [am_le]) ?_
                exact ih _ _ _ _ _ _ hF hk
              · rw [if_neg h6] at hF
                refine am_Rr.go 6 (σ' := (9, [some (.ref 27), some (.int v1), some (.int v2), some (.int v5), some (.int 0), some (.int (v5 + 1)), some (.int 0)], [], x)) rfl ?_
                refine am_Rr.weak (ls0 := [some (.ref 27), some (.int v1), some (.int v2), some (.int v5), some (.int 0), some (.int (v5 + 1)), none]) (by simp [am_le]) ?_
                exact ih _ _ _ _ _ _ hF hk
        · rw [if_neg h3] at hF
          refine am_Rr.go 6 (σ' := (35, [some (.ref 27), some (.int v1), some (.int v2), some (.int v3), some (.int v4), some (.int v5), none], [.int v2, .ref 41, .int v5, .int v1, .ref 27], x)) rfl ?_
          by_cases c7 : 0 ≤ v2.toInt ∧ v2.toInt < 3
          · rw [if_pos c7] at hF
            refine am_Rr.chk (σ' := (36, [some (.ref 27), some (.int v1), some (.int v2), some (.int v3), some (.int v4), some (.int v5), none], [.int ((x.2.2.1 41) v2.toNatClampNeg), .int v5, .int v1, .ref 27], x)) rfl (by exact vp_in_iff.mpr c7) ?_
            cases g10 : G_X8_waits v1 v5 ((x.2.2.1 41) v2.toNatClampNeg) x with
            | none => rw [g10] at hF; cases hF
            | some q_ =>
              obtain ⟨r8, x9⟩ := q_
              rw [g10] at hF
              dsimp only at hF
              refine am_Rr.call (pc := 39) (ls := [some (.ref 27), some (.int v1), some (.int v2), some (.int v3), some (.int v4), some (.int v5), none]) (st := []) rfl (A_X8_waits d g10) ?_
              rintro _ _ ⟨rfl, rfl⟩
              show am_Rr _ _ (39, [some (.ref 27), some (.int v1), some (.int v2), some (.int v3), some (.int v4), some (.int v5), none], [.int r8], x9) _
              refine am_Rr.go 5 (σ' := (51, [some (.ref 27), some (.int v1), some (.int v2), some (.int v3), some (.int v4), some (.int v5), some (.int r8)], [.int v5, .ref 39], x9)) rfl ?_
              refine am_Rr.chk (σ' := (52, [some (.ref 27), some (.int v1), some (.int v2), some (.int v3), some (.int v4), some (.int v5), some (.int r8)], [.int ((x9.2.2.1 39) v5.toNatClampNeg)], x9)) rfl (by exact vp_in_iff.mpr c2) ?_
              refine am_Rr.go 1 (σ' := (if ((x9.2.2.1 39) v5.toNatClampNeg) = 0 then 75 else 55, [some (.ref 27), some (.int v1), some (.int v2), some (.int v3), some (.int v4), some (.int v5), some (.int r8)], [], x9)) rfl ?_
              refine am_Rr.ite (fun h11 => ?_) (fun h11 => ?_)
              · rw [if_pos h11] at hF
                refine am_Rr.go 2 (σ' := (9, [some (.ref 27), some (.int v1), some (.int v2), some (.int v3), some (.int v4), some (.int (v5 + 1)), some (.int r8)], [], x9)) rfl ?_
                refine am_Rr.weak (ls0 := [some (.ref 27), some (.int v1), some (.int v2), some (.int v3), some (.int v4), some (.int (v5 + 1)), none]) (by simp [am_le]) ?_
                exact ih _ _ _ _ _ _ hF hk
              · rw [if_neg h11] at hF
                refine am_Rr.go 3 (σ' := (if v3 = (-9) then 68 else 61, [some (.ref 27), some (.int v1), some (.int v2), some (.int v3), some (.int v4), some (.int v5), some (.int r8)], [], x9)) rfl ?_
                refine am_Rr.ite (fun h12 => ?_) (fun h12 => ?_)
                · rw [if_pos h12] at hF
                  refine am_Rr.go 6 (σ' := (9, [some (.ref 27), some (.int v1), some (.int v2), some (.int v5), some (.int r8), some (.int (v5 + 1)), some (.int r8)], [], x9)) rfl ?_
                  refine am_Rr.weak (ls0 := [some (.ref 27), some (.int v1), some (.int v2), some (.int v5), some (.int r8), some (.int (v5 + 1)), none]) (by simp [am_le]) ?_
                  exact ih _ _ _ _ _ _ hF hk
                · rw [if_neg h12] at hF
                  refine am_Rr.go 3 (σ' := (if v4 ≤ r8 then 75 else 68, [some (.ref 27), some (.int v1), some (.int v2), some (.int v3), some (.int v4), some (.int v5), some (.int r8)], [], x9)) rfl ?_
                  refine am_Rr.ite (fun h13 => ?_) (fun h13 => ?_)
                  · rw [if_pos h13] at hF
                    refine am_Rr.go 2 (σ' := (9, [some (.ref 27), some (.int v1), some (.int v2), some (.int v3), some (.int v4), some (.int (v5 + 1)), some (.int r8)], [], x9)) rfl ?_
                    refine am_Rr.weak (ls0 := [some (.ref 27), some (.int v1), some (.int v2), some (.int v3), some (.int v4), some (.int (v5 + 1)), none]) (by simp [am_le]) ?_
                    exact ih _ _ _ _ _ _ hF hk
                  · rw [if_neg h13] at hF
                    refine am_Rr.go 6 (σ' := (9, [some (.ref 27), some (.int v1), some (.int v2), some (.int v5), some (.int r8), some (.int (v5 + 1)), some (.int r8)], [], x9)) rfl ?_
                    refine am_Rr.weak (ls0 := [some (.ref 27), some (.int v1), some (.int v2), some (.int v5), some (.int r8), some (.int (v5 + 1)), none]) (by simp [am_le]) ?_
                    exact ih _ _ _ _ _ _ hF hk
          · rw [if_neg c7] at hF
            cases hF
      · rw [if_neg c2] at hF
        cases hF
noncomputable def G_X8_looks (a : Int32) (b : Int32) (x : am_X) : Option (Int32 × am_X) := (match L_X8_looks_9 1000 a b (-9 : Int32) (0 : Int32) (0 : Int32) x with | none => none | some (v15, v16, v17, v18, v19, x14) => (if v17 = (-9) then some (v17, x14) else (if v15 = 1 then (if 0 ≤ v16.toInt ∧ v16.toInt < 3 then some (v17, (am_sA x14 41 (upd (x14.2.2.1 41) v16.toNatClampNeg v17))) else none) else (if v15 = 4 then (if 0 ≤ v16.toInt ∧ v16.toInt < 3 then some (v17, (am_sA x14 41 (upd (x14.2.2.1 41) v16.toNatClampNeg v17))) else none) else some (v17, x14)))))
theorem A_X8_looks (d : Nat) {a : Int32} {b : Int32} {x : am_X} {res : Int32 × am_X} (hF : G_X8_looks a b x = some res) : am_T (d + 5) mX8_looks [.ref 27, .int a, .int b] x (fun ro y => ro = some (.int res.1) ∧ res.2 = y) := by
  refine am_T.of rfl ?_
  show am_Rr (d + 4) kX8_looks (0, [some (.ref 27), some (.int a), some (.int b), none, none, none, none], [], x) _
  unfold G_X8_looks at hF
  refine am_Rr.go 6 (σ' := (9, [some (.ref 27), some (.int a), some (.int b), some (.int (-9)), some (.int 0), some (.int 0), none], [], x)) rfl ?_
  cases g20 : L_X8_looks_9 1000 a b (-9 : Int32) (0 : Int32) (0 : Int32) x with
  | none => rw [g20] at hF; cases hF
  | some q_ =>
    obtain ⟨v15, v16, v17, v18, v19, x14⟩ := q_
    rw [g20] at hF
    dsimp only at hF
    refine L_X8_looks_9_ok d _ v15 v16 v17 v18 v19 x14 _ _ _ _ _ _ _ g20 ?_
    refine am_Rr.go 3 (σ' := (if v17 = (-9) then 104 else 87, [some (.ref 27), some (.int v15), some (.int v16), some (.int v17), some (.int v18), some (.int v19), none], [], x14)) rfl ?_
    refine am_Rr.ite (fun h21 => ?_) (fun h21 => ?_)
    · rw [if_pos h21] at hF
      refine am_Rr.go 1 (σ' := (105, [some (.ref 27), some (.int v15), some (.int v16), some (.int v17), some (.int v18), some (.int v19), none], [.int v17], x14)) rfl ?_
      obtain rfl := Option.some.inj hF
      exact am_Rr.ret (v := some (.int v17)) (x := x14) rfl (by trivial) ⟨rfl, rfl⟩
    · rw [if_neg h21] at hF
      refine am_Rr.go 3 (σ' := (if v15 = 1 then 97 else 92, [some (.ref 27), some (.int v15), some (.int v16), some (.int v17), some (.int v18), some (.int v19), none], [], x14)) rfl ?_
      refine am_Rr.ite (fun h22 => ?_) (fun h22 => ?_)
      · rw [if_pos h22] at hF
        refine am_Rr.go 4 (σ' := (103, [some (.ref 27), some (.int v15), some (.int v16), some (.int v17), some (.int v18), some (.int v19), none], [.int v17, .int v16, .ref 41], x14)) rfl ?_
        by_cases c23 : 0 ≤ v16.toInt ∧ v16.toInt < 3
        · rw [if_pos c23] at hF
          refine am_Rr.chk (σ' := (104, [some (.ref 27), some (.int v15), some (.int v16), some (.int v17), some (.int v18), some (.int v19), none], [], (am_sA x14 41 (upd (x14.2.2.1 41) v16.toNatClampNeg v17)))) rfl (by exact vp_in_iff.mpr c23) ?_
          refine am_Rr.go 1 (σ' := (105, [some (.ref 27), some (.int v15), some (.int v16), some (.int v17), some (.int v18), some (.int v19), none], [.int v17], (am_sA x14 41 (upd (x14.2.2.1 41) v16.toNatClampNeg v17)))) rfl ?_
          obtain rfl := Option.some.inj hF
          exact am_Rr.ret (v := some (.int v17)) (x := (am_sA x14 41 (upd (x14.2.2.1 41) v16.toNatClampNeg v17))) rfl (by trivial) ⟨rfl, rfl⟩
        · rw [if_neg c23] at hF
          cases hF
      · rw [if_neg h22] at hF
        refine am_Rr.go 3 (σ' := (if v15 = 4 then 97 else 104, [some (.ref 27), some (.int v15), some (.int v16), some (.int v17), some (.int v18), some (.int v19), none], [], x14)) rfl ?_
        refine am_Rr.ite (fun h24 => ?_) (fun h24 => ?_)
        · rw [if_pos h24] at hF
          refine am_Rr.go 4 (σ' := (103, [some (.ref 27), some (.int v15), some (.int v16), some (.int v17), some (.int v18), some (.int v19), none], [.int v17, .int v16, .ref 41], x14)) rfl ?_
          by_cases c25 : 0 ≤ v16.toInt ∧ v16.toInt < 3
          · rw [if_pos c25] at hF
            refine am_Rr.chk (σ' := (104, [some (.ref 27), some (.int v15), some (.int v16), some (.int v17), some (.int v18), some (.int v19), none], [], (am_sA x14 41 (upd (x14.2.2.1 41) v16.toNatClampNeg v17)))) rfl (by exact vp_in_iff.mpr c25) ?_
            refine am_Rr.go 1 (σ' := (105, [some (.ref 27), some (.int v15), some (.int v16), some (.int v17), some (.int v18), some (.int v19), none], [.int v17], (am_sA x14 41 (upd (x14.2.2.1 41) v16.toNatClampNeg v17)))) rfl ?_
            obtain rfl := Option.some.inj hF
            exact am_Rr.ret (v := some (.int v17)) (x := (am_sA x14 41 (upd (x14.2.2.1 41) v16.toNatClampNeg v17))) rfl (by trivial) ⟨rfl, rfl⟩
          · rw [if_neg c25] at hF
            cases hF
        · rw [if_neg h24] at hF
          refine am_Rr.go 1 (σ' := (105, [some (.ref 27), some (.int v15), some (.int v16), some (.int v17), some (.int v18), some (.int v19), none], [.int v17], x14)) rfl ?_
          obtain rfl := Option.some.inj hF
          exact am_Rr.ret (v := some (.int v17)) (x := x14) rfl (by trivial) ⟨rfl, rfl⟩
noncomputable def L_X8_reached_14 : Nat → Int32 → Int32 → am_X → Option (Int32 × Int32 × am_X)
  | 0, _, _, _ => none
  | n + 1, v1, v2, x => (if (36 : Int32) ≤ v2 then some (v1, v2, x) else (if 0 ≤ v2.toInt ∧ v2.toInt < 36 then (if (100000 : Int32) ≤ ((x.2.2.1 38) v2.toNatClampNeg) then L_X8_reached_14 n (v1 + 0) (v2 + 1) x else L_X8_reached_14 n (v1 + 1) (v2 + 1) x) else none))
theorem L_X8_reached_14_ok (d : Nat) (post : Option Value → am_X → Prop) (w1 : Int32) (w2 : Int32) (y : am_X) : ∀ (n : Nat) (v1 : Int32) (v2 : Int32) (x : am_X), L_X8_reached_14 n v1 v2 x = some (w1, w2, y) → am_Rr (d + 4) kX8_reached (45, [some (.ref 27), some (.int w1), some (.int w2)], [], y) post → am_Rr (d + 4) kX8_reached (14, [some (.ref 27), some (.int v1), some (.int v2)], [], x) post := by
  intro n
  induction n with
  | zero =>
    intro v1 v2 x hF
    cases hF
  | succ n ih =>
    intro v1 v2 x hF hk
    rw [L_X8_reached_14] at hF
    refine am_Rr.go 3 (σ' := (if (36 : Int32) ≤ v2 then 45 else 20, [some (.ref 27), some (.int v1), some (.int v2)], [], x)) rfl ?_
    refine am_Rr.ite (fun h4 => ?_) (fun h4 => ?_)
    · rw [if_pos h4] at hF
      cases hF
      exact hk
    · rw [if_neg h4] at hF
      refine am_Rr.go 4 (σ' := (26, [some (.ref 27), some (.int v1), some (.int v2)], [.int v2, .ref 38, .int v1], x)) rfl ?_
      by_cases c5 : 0 ≤ v2.toInt ∧ v2.toInt < 36
      · rw [if_pos c5] at hF
        refine am_Rr.chk (σ' := (27, [some (.ref 27), some (.int v1), some (.int v2)], [.int ((x.2.2.1 38) v2.toNatClampNeg), .int v1], x)) rfl (by exact vp_in_iff.mpr c5) ?_
        refine am_Rr.go 2 (σ' := (if (100000 : Int32) ≤ ((x.2.2.1 38) v2.toNatClampNeg) then 36 else 32, [some (.ref 27), some (.int v1), some (.int v2)], [.int v1], x)) rfl ?_
        refine am_Rr.ite (fun h6 => ?_) (fun h6 => ?_)
        · rw [if_pos h6] at hF
          refine am_Rr.go 5 (σ' := (14, [some (.ref 27), some (.int (v1 + 0)), some (.int (v2 + 1))], [], x)) rfl ?_
          exact ih _ _ _ hF hk
        · rw [if_neg h6] at hF
          refine am_Rr.go 6 (σ' := (14, [some (.ref 27), some (.int (v1 + 1)), some (.int (v2 + 1))], [], x)) rfl ?_
          exact ih _ _ _ hF hk
      · rw [if_neg c5] at hF
        cases hF
noncomputable def G_X8_reached  (x : am_X) : Option (Int32 × am_X) := (match G_X8_walkFrom ((x.2.2.1 29) 0) x with | none => none | some (_, x2) => (match L_X8_reached_14 1000 (0 : Int32) (0 : Int32) x2 with | none => none | some (v8, v9, x7) => some (v8, x7)))
theorem A_X8_reached (d : Nat)  {x : am_X} {res : Int32 × am_X} (hF : G_X8_reached  x = some res) : am_T (d + 5) mX8_reached [.ref 27] x (fun ro y => ro = some (.int res.1) ∧ res.2 = y) := by
  refine am_T.of rfl ?_
  show am_Rr (d + 4) kX8_reached (0, [some (.ref 27), none, none], [], x) _
  unfold G_X8_reached at hF
  refine am_Rr.go 4 (σ' := (6, [some (.ref 27), none, none], [.int 0, .ref 29, .ref 27], x)) rfl ?_
  refine am_Rr.chk (σ' := (7, [some (.ref 27), none, none], [.int ((x.2.2.1 29) 0), .ref 27], x)) rfl (by unfold vp_in; decide) ?_
  cases g3 : G_X8_walkFrom ((x.2.2.1 29) 0) x with
  | none => rw [g3] at hF; cases hF
  | some q_ =>
    obtain ⟨u_, x2⟩ := q_
    rw [g3] at hF
    dsimp only at hF
    refine am_Rr.call (pc := 10) (ls := [some (.ref 27), none, none]) (st := []) rfl (A_X8_walkFrom d g3) ?_
    rintro _ _ ⟨rfl, rfl⟩
    show am_Rr _ _ (10, [some (.ref 27), none, none], [], x2) _
    refine am_Rr.go 4 (σ' := (14, [some (.ref 27), some (.int 0), some (.int 0)], [], x2)) rfl ?_
    cases g10 : L_X8_reached_14 1000 (0 : Int32) (0 : Int32) x2 with
    | none => rw [g10] at hF; cases hF
    | some q_ =>
      obtain ⟨v8, v9, x7⟩ := q_
      rw [g10] at hF
      dsimp only at hF
      refine L_X8_reached_14_ok d _ v8 v9 x7 _ _ _ _ g10 ?_
      refine am_Rr.go 1 (σ' := (46, [some (.ref 27), some (.int v8), some (.int v9)], [.int v8], x7)) rfl ?_
      obtain rfl := Option.some.inj hF
      exact am_Rr.ret (v := some (.int v8)) (x := x7) rfl (by trivial) ⟨rfl, rfl⟩
noncomputable def G_X8_ways (a : Int32) (b : Int32) (x : am_X) : Option (Int64 × am_X) := (if (0 : Int32) ≤ a then (if a ≤ 20 then (match G_X8_isNoSquare b x with | none => none | some (r3, x4) => (if r3 = 0 then (match G_X8_waysOf a x4 with | none => none | some (r7, x8) => (if 0 ≤ b.toInt ∧ b.toInt < 36 then some (((x8.2.2.2 43) b.toNatClampNeg), x8) else none)) else (match G_X8_noLong (-1 : Int32) x4 with | none => none | some (r11, x12) => some (r11, x12)))) else (match G_X8_noLong (-6 : Int32) x with | none => none | some (r14, x15) => some (r14, x15))) else (match G_X8_noLong (-4 : Int32) x with | none => none | some (r17, x18) => some (r17, x18)))
theorem A_X8_ways (d : Nat) {a : Int32} {b : Int32} {x : am_X} {res : Int64 × am_X} (hF : G_X8_ways a b x = some res) : am_T (d + 5) mX8_ways [.ref 27, .int a, .int b] x (fun ro y => ro = some (.long res.1) ∧ res.2 = y) := by
  refine am_T.of rfl ?_
  show am_Rr (d + 4) kX8_ways (0, [some (.ref 27), some (.int a), some (.int b)], [], x) _
  unfold G_X8_ways at hF
  refine am_Rr.go 2 (σ' := (if (0 : Int32) ≤ a then 11 else 4, [some (.ref 27), some (.int a), some (.int b)], [], x)) rfl ?_
  refine am_Rr.ite (fun h1 => ?_) (fun h1 => ?_)
  · rw [if_pos h1] at hF
    refine am_Rr.go 3 (σ' := (if a ≤ 20 then 24 else 17, [some (.ref 27), some (.int a), some (.int b)], [], x)) rfl ?_
    refine am_Rr.ite (fun h2 => ?_) (fun h2 => ?_)
    · rw [if_pos h2] at hF
      refine am_Rr.go 1 (σ' := (25, [some (.ref 27), some (.int a), some (.int b)], [.int b], x)) rfl ?_
      cases g5 : G_X8_isNoSquare b x with
      | none => rw [g5] at hF; cases hF
      | some q_ =>
        obtain ⟨r3, x4⟩ := q_
        rw [g5] at hF
        dsimp only at hF
        refine am_Rr.call (pc := 28) (ls := [some (.ref 27), some (.int a), some (.int b)]) (st := []) rfl (A_X8_isNoSquare (d + 2) g5) ?_
        rintro _ _ ⟨rfl, rfl⟩
        show am_Rr _ _ (28, [some (.ref 27), some (.int a), some (.int b)], [.int r3], x4) _
        refine am_Rr.go 1 (σ' := (if r3 = 0 then 37 else 31, [some (.ref 27), some (.int a), some (.int b)], [], x4)) rfl ?_
        refine am_Rr.ite (fun h6 => ?_) (fun h6 => ?_)
        · rw [if_pos h6] at hF
          refine am_Rr.go 2 (σ' := (39, [some (.ref 27), some (.int a), some (.int b)], [.int a, .ref 27], x4)) rfl ?_
          cases g9 : G_X8_waysOf a x4 with
          | none => rw [g9] at hF; cases hF
          | some q_ =>
            obtain ⟨r7, x8⟩ := q_
            rw [g9] at hF
            dsimp only at hF
            refine am_Rr.call (pc := 42) (ls := [some (.ref 27), some (.int a), some (.int b)]) (st := []) rfl (A_X8_waysOf d g9) ?_
            rintro _ _ ⟨rfl, rfl⟩
            show am_Rr _ _ (42, [some (.ref 27), some (.int a), some (.int b)], [.long r7], x8) _
            refine am_Rr.go 4 (σ' := (48, [some (.ref 27), some (.int a), some (.int b)], [.int b, .ref 43], x8)) rfl ?_
            by_cases c10 : 0 ≤ b.toInt ∧ b.toInt < 36
            · rw [if_pos c10] at hF
              refine am_Rr.chk (σ' := (49, [some (.ref 27), some (.int a), some (.int b)], [.long ((x8.2.2.2 43) b.toNatClampNeg)], x8)) rfl (by exact vp_in_iff.mpr c10) ?_
              obtain rfl := Option.some.inj hF
              exact am_Rr.ret (v := some (.long ((x8.2.2.2 43) b.toNatClampNeg))) (x := x8) rfl (by trivial) ⟨rfl, rfl⟩
            · rw [if_neg c10] at hF
              cases hF
        · rw [if_neg h6] at hF
          refine am_Rr.go 2 (σ' := (33, [some (.ref 27), some (.int a), some (.int b)], [.int (-1), .ref 27], x4)) rfl ?_
          cases g13 : G_X8_noLong (-1 : Int32) x4 with
          | none => rw [g13] at hF; cases hF
          | some q_ =>
            obtain ⟨r11, x12⟩ := q_
            rw [g13] at hF
            dsimp only at hF
            refine am_Rr.call (pc := 36) (ls := [some (.ref 27), some (.int a), some (.int b)]) (st := []) rfl (A_X8_noLong (d + 1) g13) ?_
            rintro _ _ ⟨rfl, rfl⟩
            show am_Rr _ _ (36, [some (.ref 27), some (.int a), some (.int b)], [.long r11], x12) _
            obtain rfl := Option.some.inj hF
            exact am_Rr.ret (v := some (.long r11)) (x := x12) rfl (by trivial) ⟨rfl, rfl⟩
    · rw [if_neg h2] at hF
      refine am_Rr.go 2 (σ' := (20, [some (.ref 27), some (.int a), some (.int b)], [.int (-6), .ref 27], x)) rfl ?_
      cases g16 : G_X8_noLong (-6 : Int32) x with
      | none => rw [g16] at hF; cases hF
      | some q_ =>
        obtain ⟨r14, x15⟩ := q_
        rw [g16] at hF
        dsimp only at hF
        refine am_Rr.call (pc := 23) (ls := [some (.ref 27), some (.int a), some (.int b)]) (st := []) rfl (A_X8_noLong (d + 1) g16) ?_
        rintro _ _ ⟨rfl, rfl⟩
        show am_Rr _ _ (23, [some (.ref 27), some (.int a), some (.int b)], [.long r14], x15) _
        obtain rfl := Option.some.inj hF
        exact am_Rr.ret (v := some (.long r14)) (x := x15) rfl (by trivial) ⟨rfl, rfl⟩
  · rw [if_neg h1] at hF
    refine am_Rr.go 2 (σ' := (7, [some (.ref 27), some (.int a), some (.int b)], [.int (-4), .ref 27], x)) rfl ?_
    cases g19 : G_X8_noLong (-4 : Int32) x with
    | none => rw [g19] at hF; cases hF
    | some q_ =>
      obtain ⟨r17, x18⟩ := q_
      rw [g19] at hF
      dsimp only at hF
      refine am_Rr.call (pc := 10) (ls := [some (.ref 27), some (.int a), some (.int b)]) (st := []) rfl (A_X8_noLong (d + 1) g19) ?_
      rintro _ _ ⟨rfl, rfl⟩
      show am_Rr _ _ (10, [some (.ref 27), some (.int a), some (.int b)], [.long r17], x18) _
      obtain rfl := Option.some.inj hF
      exact am_Rr.ret (v := some (.long r17)) (x := x18) rfl (by trivial) ⟨rfl, rfl⟩
