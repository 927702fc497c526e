/-! the class itself, extracted: laid by wip/whole/p17.py -/
noncomputable def G_X7_refused (a : Int32) (x : am_X) : Option (Int32 × am_X) := (if (-a) < 0 then some (a, x) else (if (7 : Int32) ≤ (-a) then some (a, x) else (if 0 ≤ (-a).toInt ∧ (-a).toInt < 7 then some (a, (am_sA x 26 (upd (x.2.2.1 26) ((-a).toNatClampNeg) (((x.2.2.1 26) (-a).toNatClampNeg) + 1)))) else none)))
theorem A_X7_refused (d : Nat) {a : Int32} {x : am_X} {res : Int32 × am_X} (hF : G_X7_refused a x = some res) : am_T (d + 2) mX7_refused [.ref 0, .int a] x (fun ro y => ro = some (.int res.1) ∧ res.2 = y) := by
  refine am_T.of rfl ?_
  show am_Rr (d + 1) kX7_refused (0, [some (.ref 0), some (.int a), none], [], x) _
  unfold G_X7_refused at hF
  refine am_Rr.go 5 (σ' := (if (-a) < 0 then 26 else 7, [some (.ref 0), some (.int a), some (.int (-a))], [], x)) rfl ?_
  refine am_Rr.ite (fun h1 => ?_) (fun h1 => ?_)
  · rw [if_pos h1] at hF
    refine am_Rr.go 1 (σ' := (27, [some (.ref 0), some (.int a), some (.int (-a))], [.int a], x)) rfl ?_
    obtain rfl := Option.some.inj hF
    exact am_Rr.ret (v := some (.int a)) (x := x) rfl (by trivial) ⟨rfl, rfl⟩
  · rw [if_neg h1] at hF
    refine am_Rr.go 5 (σ' := (if (7 : Int32) ≤ (-a) then 26 else 16, [some (.ref 0), some (.int a), some (.int (-a))], [], x)) rfl ?_
    refine am_Rr.ite (fun h2 => ?_) (fun h2 => ?_)
    · rw [if_pos h2] at hF
      refine am_Rr.go 1 (σ' := (27, [some (.ref 0), some (.int a), some (.int (-a))], [.int a], x)) rfl ?_
      obtain rfl := Option.some.inj hF
      exact am_Rr.ret (v := some (.int a)) (x := x) rfl (by trivial) ⟨rfl, rfl⟩
    · rw [if_neg h2] at hF
      refine am_Rr.go 4 (σ' := (22, [some (.ref 0), some (.int a), some (.int (-a))], [.int (-a), .ref 26, .int (-a), .ref 26], x)) rfl ?_
      by_cases c3 : 0 ≤ (-a).toInt ∧ (-a).toInt < 7
      · rw [if_pos c3] at hF
        refine am_Rr.chk (σ' := (23, [some (.ref 0), some (.int a), some (.int (-a))], [.int ((x.2.2.1 26) (-a).toNatClampNeg), .int (-a), .ref 26], x)) rfl (by exact vp_in_iff.mpr c3) ?_
        refine am_Rr.go 2 (σ' := (25, [some (.ref 0), some (.int a), some (.int (-a))], [.int (((x.2.2.1 26) (-a).toNatClampNeg) + 1), .int (-a), .ref 26], x)) rfl ?_
        refine am_Rr.chk (σ' := (26, [some (.ref 0), some (.int a), some (.int (-a))], [], (am_sA x 26 (upd (x.2.2.1 26) ((-a).toNatClampNeg) (((x.2.2.1 26) (-a).toNatClampNeg) + 1))))) rfl (by exact vp_in_iff.mpr c3) ?_
        refine am_Rr.go 1 (σ' := (27, [some (.ref 0), some (.int a), some (.int (-a))], [.int a], (am_sA x 26 (upd (x.2.2.1 26) ((-a).toNatClampNeg) (((x.2.2.1 26) (-a).toNatClampNeg) + 1))))) rfl ?_
        obtain rfl := Option.some.inj hF
        exact am_Rr.ret (v := some (.int a)) (x := (am_sA x 26 (upd (x.2.2.1 26) ((-a).toNatClampNeg) (((x.2.2.1 26) (-a).toNatClampNeg) + 1)))) rfl (by trivial) ⟨rfl, rfl⟩
      · rw [if_neg c3] at hF
        cases hF
noncomputable def G_X7_refusalsOf (a : Int32) (x : am_X) : Option (Int32 × am_X) := (if (-1 : Int32) < a then some ((-9 : Int32), x) else (if (-6 : Int32) ≤ a then (if 0 ≤ (-a).toInt ∧ (-a).toInt < 7 then some (((x.2.2.1 26) (-a).toNatClampNeg), x) else none) else some ((-9 : Int32), x)))
theorem A_X7_refusalsOf (d : Nat) {a : Int32} {x : am_X} {res : Int32 × am_X} (hF : G_X7_refusalsOf a x = some res) : am_T (d + 2) mX7_refusalsOf [.ref 0, .int a] x (fun ro y => ro = some (.int res.1) ∧ res.2 = y) := by
  refine am_T.of rfl ?_
  show am_Rr (d + 1) kX7_refusalsOf (0, [some (.ref 0), some (.int a)], [], x) _
  unfold G_X7_refusalsOf at hF
  refine am_Rr.go 3 (σ' := (if (-1 : Int32) < a then 11 else 5, [some (.ref 0), some (.int a)], [], x)) rfl ?_
  refine am_Rr.ite (fun h1 => ?_) (fun h1 => ?_)
  · rw [if_pos h1] at hF
    refine am_Rr.go 2 (σ' := (23, [some (.ref 0), some (.int a)], [.int (-9)], x)) rfl ?_
    obtain rfl := Option.some.inj hF
    exact am_Rr.ret (v := some (.int (-9))) (x := x) rfl (by trivial) ⟨rfl, rfl⟩
  · rw [if_neg h1] at hF
    refine am_Rr.go 3 (σ' := (if (-6 : Int32) ≤ a then 16 else 11, [some (.ref 0), some (.int a)], [], x)) rfl ?_
    refine am_Rr.ite (fun h2 => ?_) (fun h2 => ?_)
    · rw [if_pos h2] at hF
      refine am_Rr.go 4 (σ' := (22, [some (.ref 0), some (.int a)], [.int (-a), .ref 26], x)) rfl ?_
      by_cases c3 : 0 ≤ (-a).toInt ∧ (-a).toInt < 7
      · rw [if_pos c3] at hF
        refine am_Rr.chk (σ' := (23, [some (.ref 0), some (.int a)], [.int ((x.2.2.1 26) (-a).toNatClampNeg)], x)) rfl (by exact vp_in_iff.mpr c3) ?_
        obtain rfl := Option.some.inj hF
        exact am_Rr.ret (v := some (.int ((x.2.2.1 26) (-a).toNatClampNeg))) (x := x) rfl (by trivial) ⟨rfl, rfl⟩
      · rw [if_neg c3] at hF
        cases hF
    · rw [if_neg h2] at hF
      refine am_Rr.go 2 (σ' := (23, [some (.ref 0), some (.int a)], [.int (-9)], x)) rfl ?_
      obtain rfl := Option.some.inj hF
      exact am_Rr.ret (v := some (.int (-9))) (x := x) rfl (by trivial) ⟨rfl, rfl⟩
noncomputable def G_X7_refusedLong (a : Int32) (x : am_X) : Option (Int64 × am_X) := (match G_X7_refused a x with | none => none | some (r1, x2) => some (((4000000000000000000 : Int64) - r1.toInt64), x2))
theorem A_X7_refusedLong (d : Nat) {a : Int32} {x : am_X} {res : Int64 × am_X} (hF : G_X7_refusedLong a x = some res) : am_T (d + 3) mX7_refusedLong [.ref 0, .int a] x (fun ro y => ro = some (.long res.1) ∧ res.2 = y) := by
  refine am_T.of rfl ?_
  show am_Rr (d + 2) kX7_refusedLong (0, [some (.ref 0), some (.int a)], [], x) _
  unfold G_X7_refusedLong at hF
  refine am_Rr.go 3 (σ' := (5, [some (.ref 0), some (.int a)], [.int a, .ref 0, .long 4000000000000000000], x)) rfl ?_
  cases g3 : G_X7_refused a x with
  | none => rw [g3] at hF; cases hF
  | some q_ =>
    obtain ⟨r1, x2⟩ := q_
    rw [g3] at hF
    dsimp only at hF
    refine am_Rr.call (pc := 8) (ls := [some (.ref 0), some (.int a)]) (st := [.long 4000000000000000000]) rfl (A_X7_refused d g3) ?_
    rintro _ _ ⟨rfl, rfl⟩
    show am_Rr _ _ (8, [some (.ref 0), some (.int a)], [.int r1, .long 4000000000000000000], x2) _
    refine am_Rr.go 2 (σ' := (10, [some (.ref 0), some (.int a)], [.long ((4000000000000000000 : Int64) - r1.toInt64)], x2)) rfl ?_
    obtain rfl := Option.some.inj hF
    exact am_Rr.ret (v := some (.long ((4000000000000000000 : Int64) - r1.toInt64))) (x := x2) rfl (by trivial) ⟨rfl, rfl⟩
noncomputable def G_X7_wrongNumber (a : Int32) (b : Int32) (x : am_X) : Option (Int32 × am_X) := (if (0 : Int32) ≤ a then (if a ≤ b then some ((0 : Int32), x) else some ((-6 : Int32), x)) else some ((-4 : Int32), x))
theorem A_X7_wrongNumber (d : Nat) {a : Int32} {b : Int32} {x : am_X} {res : Int32 × am_X} (hF : G_X7_wrongNumber a b x = some res) : am_T (d + 2) mX7_wrongNumber [.int a, .int b] x (fun ro y => ro = some (.int res.1) ∧ res.2 = y) := by
  refine am_T.of rfl ?_
  show am_Rr (d + 1) kX7_wrongNumber (0, [some (.int a), some (.int b)], [], x) _
  unfold G_X7_wrongNumber at hF
  refine am_Rr.go 2 (σ' := (if (0 : Int32) ≤ a then 7 else 4, [some (.int a), some (.int b)], [], x)) rfl ?_
  refine am_Rr.ite (fun h1 => ?_) (fun h1 => ?_)
  · rw [if_pos h1] at hF
    refine am_Rr.go 3 (σ' := (if a ≤ b then 17 else 12, [some (.int a), some (.int b)], [], x)) rfl ?_
    refine am_Rr.ite (fun h2 => ?_) (fun h2 => ?_)
    · rw [if_pos h2] at hF
      refine am_Rr.go 1 (σ' := (18, [some (.int a), some (.int b)], [.int 0], x)) rfl ?_
      obtain rfl := Option.some.inj hF
      exact am_Rr.ret (v := some (.int 0)) (x := x) rfl (by trivial) ⟨rfl, rfl⟩
    · rw [if_neg h2] at hF
      refine am_Rr.go 2 (σ' := (18, [some (.int a), some (.int b)], [.int (-6)], x)) rfl ?_
      obtain rfl := Option.some.inj hF
      exact am_Rr.ret (v := some (.int (-6))) (x := x) rfl (by trivial) ⟨rfl, rfl⟩
  · rw [if_neg h1] at hF
    refine am_Rr.go 1 (σ' := (6, [some (.int a), some (.int b)], [.int (-4)], x)) rfl ?_
    obtain rfl := Option.some.inj hF
    exact am_Rr.ret (v := some (.int (-4))) (x := x) rfl (by trivial) ⟨rfl, rfl⟩
noncomputable def G_X7_wrongMinute (a : Int32) (x : am_X) : Option (Int32 × am_X) := (match G_X7_wrongNumber a (999 : Int32) x with | none => none | some (r1, x2) => some (r1, x2))
theorem A_X7_wrongMinute (d : Nat) {a : Int32} {x : am_X} {res : Int32 × am_X} (hF : G_X7_wrongMinute a x = some res) : am_T (d + 3) mX7_wrongMinute [.int a] x (fun ro y => ro = some (.int res.1) ∧ res.2 = y) := by
  refine am_T.of rfl ?_
  show am_Rr (d + 2) kX7_wrongMinute (0, [some (.int a)], [], x) _
  unfold G_X7_wrongMinute at hF
  refine am_Rr.go 2 (σ' := (4, [some (.int a)], [.int 999, .int a], x)) rfl ?_
  cases g3 : G_X7_wrongNumber a (999 : Int32) x with
  | none => rw [g3] at hF; cases hF
  | some q_ =>
    obtain ⟨r1, x2⟩ := q_
    rw [g3] at hF
    dsimp only at hF
    refine am_Rr.call (pc := 7) (ls := [some (.int a)]) (st := []) rfl (A_X7_wrongNumber d g3) ?_
    rintro _ _ ⟨rfl, rfl⟩
    show am_Rr _ _ (7, [some (.int a)], [.int r1], x2) _
    obtain rfl := Option.some.inj hF
    exact am_Rr.ret (v := some (.int r1)) (x := x2) rfl (by trivial) ⟨rfl, rfl⟩
noncomputable def G_X7_wrongSearch (a : Int32) (b : Int32) (e : Int32) (x : am_X) : Option (Int32 × am_X) := (if am_hs (x.1 35) a then (if b < 0 then some ((-4 : Int32), x) else (if (0 : Int32) ≤ e then (if (999 : Int32) < b then some ((-6 : Int32), x) else (if e ≤ 60 then some ((0 : Int32), x) else some ((-6 : Int32), x))) else some ((-4 : Int32), x))) else some ((-1 : Int32), x))
theorem A_X7_wrongSearch (d : Nat) {a : Int32} {b : Int32} {e : Int32} {x : am_X} {res : Int32 × am_X} (hF : G_X7_wrongSearch a b e x = some res) : am_T (d + 3) mX7_wrongSearch [.ref 0, .int a, .int b, .int e] x (fun ro y => ro = some (.int res.1) ∧ res.2 = y) := by
  refine am_T.of rfl ?_
  show am_Rr (d + 2) kX7_wrongSearch (0, [some (.ref 0), some (.int a), some (.int b), some (.int e)], [], x) _
  unfold G_X7_wrongSearch at hF
  refine am_Rr.go 3 (σ' := (5, [some (.ref 0), some (.int a), some (.int b), some (.int e)], [.int a, .ref 1], x)) rfl ?_
  refine am_Rr.call (pc := 8) (ls := [some (.ref 0), some (.int a), some (.int b), some (.int e)]) (st := []) rfl (S_hasSeeker_1 d a x) ?_
  rintro _ _ ⟨rfl, (⟨rfl, b1⟩ | ⟨rfl, b1⟩)⟩
  · rw [if_pos b1] at hF
    show am_Rr _ _ (8, [some (.ref 0), some (.int a), some (.int b), some (.int e)], [.int 1], x) _
    refine am_Rr.go 3 (σ' := (if b < 0 then 21 else 17, [some (.ref 0), some (.int a), some (.int b), some (.int e)], [], x)) rfl ?_
    refine am_Rr.ite (fun h2 => ?_) (fun h2 => ?_)
    · rw [if_pos h2] at hF
      refine am_Rr.go 1 (σ' := (23, [some (.ref 0), some (.int a), some (.int b), some (.int e)], [.int (-4)], x)) rfl ?_
      obtain rfl := Option.some.inj hF
      exact am_Rr.ret (v := some (.int (-4))) (x := x) rfl (by trivial) ⟨rfl, rfl⟩
    · rw [if_neg h2] at hF
      refine am_Rr.go 2 (σ' := (if (0 : Int32) ≤ e then 24 else 21, [some (.ref 0), some (.int a), some (.int b), some (.int e)], [], x)) rfl ?_
      refine am_Rr.ite (fun h3 => ?_) (fun h3 => ?_)
      · rw [if_pos h3] at hF
        refine am_Rr.go 3 (σ' := (if (999 : Int32) < b then 37 else 31, [some (.ref 0), some (.int a), some (.int b), some (.int e)], [], x)) rfl ?_
        refine am_Rr.ite (fun h4 => ?_) (fun h4 => ?_)
        · rw [if_pos h4] at hF
          refine am_Rr.go 2 (σ' := (43, [some (.ref 0), some (.int a), some (.int b), some (.int e)], [.int (-6)], x)) rfl ?_
          obtain rfl := Option.some.inj hF
          exact am_Rr.ret (v := some (.int (-6))) (x := x) rfl (by trivial) ⟨rfl, rfl⟩
        · rw [if_neg h4] at hF
          refine am_Rr.go 3 (σ' := (if e ≤ 60 then 42 else 37, [some (.ref 0), some (.int a), some (.int b), some (.int e)], [], x)) rfl ?_
          refine am_Rr.ite (fun h5 => ?_) (fun h5 => ?_)
          · rw [if_pos h5] at hF
            refine am_Rr.go 1 (σ' := (43, [some (.ref 0), some (.int a), some (.int b), some (.int e)], [.int 0], x)) rfl ?_
            obtain rfl := Option.some.inj hF
            exact am_Rr.ret (v := some (.int 0)) (x := x) rfl (by trivial) ⟨rfl, rfl⟩
          · rw [if_neg h5] at hF
            refine am_Rr.go 2 (σ' := (43, [some (.ref 0), some (.int a), some (.int b), some (.int e)], [.int (-6)], x)) rfl ?_
            obtain rfl := Option.some.inj hF
            exact am_Rr.ret (v := some (.int (-6))) (x := x) rfl (by trivial) ⟨rfl, rfl⟩
      · rw [if_neg h3] at hF
        refine am_Rr.go 1 (σ' := (23, [some (.ref 0), some (.int a), some (.int b), some (.int e)], [.int (-4)], x)) rfl ?_
        obtain rfl := Option.some.inj hF
        exact am_Rr.ret (v := some (.int (-4))) (x := x) rfl (by trivial) ⟨rfl, rfl⟩
  · rw [if_neg b1] at hF
    show am_Rr _ _ (8, [some (.ref 0), some (.int a), some (.int b), some (.int e)], [.int 0], x) _
    refine am_Rr.go 2 (σ' := (12, [some (.ref 0), some (.int a), some (.int b), some (.int e)], [.int (-1)], x)) rfl ?_
    obtain rfl := Option.some.inj hF
    exact am_Rr.ret (v := some (.int (-1))) (x := x) rfl (by trivial) ⟨rfl, rfl⟩
noncomputable def G_X7_wrongWays (a : Int32) (b : Int32) (x : am_X) : Option (Int32 × am_X) := (match G_X7_wrongNumber a (20 : Int32) x with | none => none | some (r1, x2) => (if (0 : Int32) ≤ r1 then (if am_sq b then some ((0 : Int32), x2) else some ((-1 : Int32), x2)) else some (r1, x2)))
theorem A_X7_wrongWays (d : Nat) {a : Int32} {b : Int32} {x : am_X} {res : Int32 × am_X} (hF : G_X7_wrongWays a b x = some res) : am_T (d + 3) mX7_wrongWays [.int a, .int b] x (fun ro y => ro = some (.int res.1) ∧ res.2 = y) := by
  refine am_T.of rfl ?_
  show am_Rr (d + 2) kX7_wrongWays (0, [some (.int a), some (.int b), none], [], x) _
  unfold G_X7_wrongWays at hF
  refine am_Rr.go 2 (σ' := (3, [some (.int a), some (.int b), none], [.int 20, .int a], x)) rfl ?_
  cases g3 : G_X7_wrongNumber a (20 : Int32) x with
  | none => rw [g3] at hF; cases hF
  | some q_ =>
    obtain ⟨r1, x2⟩ := q_
    rw [g3] at hF
    dsimp only at hF
    refine am_Rr.call (pc := 6) (ls := [some (.int a), some (.int b), none]) (st := []) rfl (A_X7_wrongNumber d g3) ?_
    rintro _ _ ⟨rfl, rfl⟩
    show am_Rr _ _ (6, [some (.int a), some (.int b), none], [.int r1], x2) _
    refine am_Rr.go 3 (σ' := (if (0 : Int32) ≤ r1 then 13 else 11, [some (.int a), some (.int b), some (.int r1)], [], x2)) rfl ?_
    refine am_Rr.ite (fun h4 => ?_) (fun h4 => ?_)
    · rw [if_pos h4] at hF
      refine am_Rr.go 1 (σ' := (14, [some (.int a), some (.int b), some (.int r1)], [.int b], x2)) rfl ?_
      refine am_Rr.call (pc := 17) (ls := [some (.int a), some (.int b), some (.int r1)]) (st := []) rfl (S_isSquare d b x2) ?_
      rintro _ _ ⟨rfl, (⟨rfl, b5⟩ | ⟨rfl, b5⟩)⟩
      · rw [if_pos b5] at hF
        show am_Rr _ _ (17, [some (.int a), some (.int b), some (.int r1)], [.int 1], x2) _
        refine am_Rr.go 3 (σ' := (25, [some (.int a), some (.int b), some (.int r1)], [.int 0], x2)) rfl ?_
        obtain rfl := Option.some.inj hF
        exact am_Rr.ret (v := some (.int 0)) (x := x2) rfl (by trivial) ⟨rfl, rfl⟩
      · rw [if_neg b5] at hF
        show am_Rr _ _ (17, [some (.int a), some (.int b), some (.int r1)], [.int 0], x2) _
        refine am_Rr.go 2 (σ' := (25, [some (.int a), some (.int b), some (.int r1)], [.int (-1)], x2)) rfl ?_
        obtain rfl := Option.some.inj hF
        exact am_Rr.ret (v := some (.int (-1))) (x := x2) rfl (by trivial) ⟨rfl, rfl⟩
    · rw [if_neg h4] at hF
      refine am_Rr.go 1 (σ' := (12, [some (.int a), some (.int b), some (.int r1)], [.int r1], x2)) rfl ?_
      obtain rfl := Option.some.inj hF
      exact am_Rr.ret (v := some (.int r1)) (x := x2) rfl (by trivial) ⟨rfl, rfl⟩
noncomputable def L_X6_within_18_5 : Nat → Int32 → Int64 → Int32 → am_X → Option (Int64 × am_X)
  | 0, _, _, _, _ => none
  | n + 1, v1, v2, v4, x => (if v1 < v4 then some (v2, x) else (if (x.1 577) ≤ v4 then some (v2, x) else L_X6_within_18_5 n v1 (v2 ||| (am_lyr (x.2.2.2 19) (x.1 577) v4)) (v4 + 1) x))
theorem L_X6_within_18_5_ok (d : Nat) (res : Int64 × am_X) : ∀ (n : Nat) (v1 : Int32) (v2 : Int64) (v4 : Int32) (x : am_X), L_X6_within_18_5 n v1 v2 v4 x = some res → am_Rr (d + 2) kX6_within (5, [some (.ref 18), some (.int v1), some (.long v2), none, some (.int v4)], [], x) (fun ro y => ro = some (.long res.1) ∧ res.2 = y) := by
  intro n
  induction n with
  | zero =>
    intro v1 v2 v4 x hF
    cases hF
  | succ n ih =>
    intro v1 v2 v4 x hF
    rw [L_X6_within_18_5] at hF
    refine am_Rr.go 3 (σ' := (if v1 < v4 then 35 else 11, [some (.ref 18), some (.int v1), some (.long v2), none, some (.int v4)], [], x)) rfl ?_
    refine am_Rr.ite (fun h1 => ?_) (fun h1 => ?_)
    · rw [if_pos h1] at hF
      refine am_Rr.go 1 (σ' := (36, [some (.ref 18), some (.int v1), some (.long v2), none, some (.int v4)], [.long v2], x)) rfl ?_
      obtain rfl := Option.some.inj hF
      exact am_Rr.ret (v := some (.long v2)) (x := x) rfl (by trivial) ⟨rfl, rfl⟩
    · rw [if_neg h1] at hF
      refine am_Rr.go 4 (σ' := (if (x.1 577) ≤ v4 then 35 else 20, [some (.ref 18), some (.int v1), some (.long v2), none, some (.int v4)], [], x)) rfl ?_
      refine am_Rr.ite (fun h2 => ?_) (fun h2 => ?_)
      · rw [if_pos h2] at hF
        refine am_Rr.go 1 (σ' := (36, [some (.ref 18), some (.int v1), some (.long v2), none, some (.int v4)], [.long v2], x)) rfl ?_
        obtain rfl := Option.some.inj hF
        exact am_Rr.ret (v := some (.long v2)) (x := x) rfl (by trivial) ⟨rfl, rfl⟩
      · rw [if_neg h2] at hF
        refine am_Rr.go 3 (σ' := (24, [some (.ref 18), some (.int v1), some (.long v2), none, some (.int v4)], [.int v4, .ref 18, .long v2], x)) rfl ?_
        refine am_Rr.call (pc := 27) (ls := [some (.ref 18), some (.int v1), some (.long v2), none, some (.int v4)]) (st := [.long v2]) rfl (S_layer d v4 x) ?_
        rintro _ _ ⟨rfl, rfl⟩
        show am_Rr _ _ (27, [some (.ref 18), some (.int v1), some (.long v2), none, some (.int v4)], [.long (am_lyr (x.2.2.2 19) (x.1 577) v4), .long v2], x) _
        refine am_Rr.go 4 (σ' := (5, [some (.ref 18), some (.int v1), some (.long (v2 ||| (am_lyr (x.2.2.2 19) (x.1 577) v4))), none, some (.int (v4 + 1))], [], x)) rfl ?_
        exact ih _ _ _ _ hF
noncomputable def G_X6_within_18 (a : Int32) (x : am_X) : Option (Int64 × am_X) := L_X6_within_18_5 142 a (0 : Int64) (0 : Int32) x
theorem A_X6_within_18 (d : Nat) {a : Int32} {x : am_X} {res : Int64 × am_X} (hF : G_X6_within_18 a x = some res) : am_T (d + 3) mX6_within [.ref 18, .int a] x (fun ro y => ro = some (.long res.1) ∧ res.2 = y) := by
  refine am_T.of rfl ?_
  show am_Rr (d + 2) kX6_within (0, [some (.ref 18), some (.int a), none, none, none], [], x) _
  unfold G_X6_within_18 at hF
  refine am_Rr.go 4 (σ' := (5, [some (.ref 18), some (.int a), some (.long 0), none, some (.int 0)], [], x)) rfl ?_
  exact L_X6_within_18_5_ok d res _ _ _ _ _ hF
noncomputable def L_X6_stepsTo_18_2 : Nat → Int64 → Int32 → am_X → Option (Int32 × am_X)
  | 0, _, _, _ => none
  | n + 1, v1, v3, x => (if (x.1 577) ≤ v3 then some ((-9 : Int32), x) else (if (lg_cmp ((am_lyr (x.2.2.2 19) (x.1 577) v3) &&& v1) 0) = 0 then L_X6_stepsTo_18_2 n v1 (v3 + 1) x else some (v3, x)))
theorem L_X6_stepsTo_18_2_ok (d : Nat) (res : Int32 × am_X) : ∀ (n : Nat) (v1 : Int64) (v3 : Int32) (x : am_X), L_X6_stepsTo_18_2 n v1 v3 x = some res → am_Rr (d + 2) kX6_stepsTo (2, [some (.ref 18), some (.long v1), none, some (.int v3)], [], x) (fun ro y => ro = some (.int res.1) ∧ res.2 = y) := by
  intro n
  induction n with
  | zero =>
    intro v1 v3 x hF
    cases hF
  | succ n ih =>
    intro v1 v3 x hF
    rw [L_X6_stepsTo_18_2] at hF
    refine am_Rr.go 4 (σ' := (if (x.1 577) ≤ v3 then 30 else 10, [some (.ref 18), some (.long v1), none, some (.int v3)], [], x)) rfl ?_
    refine am_Rr.ite (fun h1 => ?_) (fun h1 => ?_)
    · rw [if_pos h1] at hF
      refine am_Rr.go 1 (σ' := (32, [some (.ref 18), some (.long v1), none, some (.int v3)], [.int (-9)], x)) rfl ?_
      obtain rfl := Option.some.inj hF
      exact am_Rr.ret (v := some (.int (-9))) (x := x) rfl (by trivial) ⟨rfl, rfl⟩
    · rw [if_neg h1] at hF
      refine am_Rr.go 2 (σ' := (12, [some (.ref 18), some (.long v1), none, some (.int v3)], [.int v3, .ref 18], x)) rfl ?_
      refine am_Rr.call (pc := 15) (ls := [some (.ref 18), some (.long v1), none, some (.int v3)]) (st := []) rfl (S_layer d v3 x) ?_
      rintro _ _ ⟨rfl, rfl⟩
      show am_Rr _ _ (15, [some (.ref 18), some (.long v1), none, some (.int v3)], [.long (am_lyr (x.2.2.2 19) (x.1 577) v3)], x) _
      refine am_Rr.go 5 (σ' := (if (lg_cmp ((am_lyr (x.2.2.2 19) (x.1 577) v3) &&& v1) 0) = 0 then 24 else 22, [some (.ref 18), some (.long v1), none, some (.int v3)], [], x)) rfl ?_
      refine am_Rr.ite (fun h2 => ?_) (fun h2 => ?_)
      · rw [if_pos h2] at hF
        refine am_Rr.go 2 (σ' := (2, [some (.ref 18), some (.long v1), none, some (.int (v3 + 1))], [], x)) rfl ?_
        exact ih _ _ _ hF
      · rw [if_neg h2] at hF
        refine am_Rr.go 1 (σ' := (23, [some (.ref 18), some (.long v1), none, some (.int v3)], [.int v3], x)) rfl ?_
        obtain rfl := Option.some.inj hF
        exact am_Rr.ret (v := some (.int v3)) (x := x) rfl (by trivial) ⟨rfl, rfl⟩
noncomputable def G_X6_stepsTo_18 (w : Int64) (x : am_X) : Option (Int32 × am_X) := L_X6_stepsTo_18_2 142 w (0 : Int32) x
theorem A_X6_stepsTo_18 (d : Nat) {w : Int64} {x : am_X} {res : Int32 × am_X} (hF : G_X6_stepsTo_18 w x = some res) : am_T (d + 3) mX6_stepsTo [.ref 18, .long w] x (fun ro y => ro = some (.int res.1) ∧ res.2 = y) := by
  refine am_T.of rfl ?_
  show am_Rr (d + 2) kX6_stepsTo (0, [some (.ref 18), some (.long w), none, none], [], x) _
  unfold G_X6_stepsTo_18 at hF
  refine am_Rr.go 2 (σ' := (2, [some (.ref 18), some (.long w), none, some (.int 0)], [], x)) rfl ?_
  exact L_X6_stepsTo_18_2_ok d res _ _ _ _ hF
noncomputable def L_X0_walk_22_1_58 : Nat → Int32 → Int32 → Int32 → am_X → Option (Int32 × Int32 × Int32 × am_X)
  | 0, _, _, _, _ => none
  | n + 1, v2, v3, v4, x => (if (36 : Int32) ≤ v4 then some (v2, v3, v4, x) else (if 0 ≤ v4.toInt ∧ v4.toInt < 36 then L_X0_walk_22_1_58 n v2 v3 (v4 + 1) (am_sB x 23 (vp_updL (x.2.2.2 23) v4.toNatClampNeg (((x.2.2.2 24) v4.toNatClampNeg) + (am_co (x.2.2.2 24) (x.2.2.2 2) v4)))) else none))
theorem L_X0_walk_22_1_58_ok (d : Nat) (post : Option Value → am_X → Prop) (w2 : Int32) (w3 : Int32) (w4 : Int32) (y : am_X) : ∀ (n : Nat) (v2 : Int32) (v3 : Int32) (v4 : Int32) (x : am_X), L_X0_walk_22_1_58 n v2 v3 v4 x = some (w2, w3, w4, y) → am_Rr (d + 4) kX0_walk (93, [some (.ref 22), some (.ref 1), some (.int w2), some (.int w3), some (.int w4)], [], y) post → am_Rr (d + 4) kX0_walk (58, [some (.ref 22), some (.ref 1), some (.int v2), some (.int v3), some (.int v4)], [], x) post := by
  intro n
  induction n with
  | zero =>
    intro v2 v3 v4 x hF
    cases hF
  | succ n ih =>
    intro v2 v3 v4 x hF hk
    rw [L_X0_walk_22_1_58] at hF
    refine am_Rr.go 3 (σ' := (if (36 : Int32) ≤ v4 then 93 else 65, [some (.ref 22), some (.ref 1), some (.int v2), some (.int v3), some (.int v4)], [], x)) rfl ?_
    refine am_Rr.ite (fun h3 => ?_) (fun h3 => ?_)
    · rw [if_pos h3] at hF
      cases hF
      exact hk
    · rw [if_neg h3] at hF
      refine am_Rr.go 6 (σ' := (77, [some (.ref 22), some (.ref 1), some (.int v2), some (.int v3), some (.int v4)], [.int v4, .ref 24, .int v4, .ref 23], x)) rfl ?_
      by_cases c4 : 0 ≤ v4.toInt ∧ v4.toInt < 36
      · rw [if_pos c4] at hF
        refine am_Rr.chk (σ' := (78, [some (.ref 22), some (.ref 1), some (.int v2), some (.int v3), some (.int v4)], [.long ((x.2.2.2 24) v4.toNatClampNeg), .int v4, .ref 23], x)) rfl (by exact vp_in_iff.mpr c4) ?_
        refine am_Rr.go 3 (σ' := (82, [some (.ref 22), some (.ref 1), some (.int v2), some (.int v3), some (.int v4)], [.int v4, .ref 1, .ref 22, .long ((x.2.2.2 24) v4.toNatClampNeg), .int v4, .ref 23], x)) rfl ?_
        refine am_Rr.call (pc := 85) (ls := [some (.ref 22), some (.ref 1), some (.int v2), some (.int v3), some (.int v4)]) (st := [.long ((x.2.2.2 24) v4.toNatClampNeg), .int v4, .ref 23]) rfl (S_comingOnto d v4 x) ?_
        rintro _ _ ⟨rfl, rfl⟩
        show am_Rr _ _ (85, [some (.ref 22), some (.ref 1), some (.int v2), some (.int v3), some (.int v4)], [.long (am_co (x.2.2.2 24) (x.2.2.2 2) v4), .long ((x.2.2.2 24) v4.toNatClampNeg), .int v4, .ref 23], x) _
        refine am_Rr.go 1 (σ' := (86, [some (.ref 22), some (.ref 1), some (.int v2), some (.int v3), some (.int v4)], [.long (((x.2.2.2 24) v4.toNatClampNeg) + (am_co (x.2.2.2 24) (x.2.2.2 2) v4)), .int v4, .ref 23], x)) rfl ?_
        refine am_Rr.chk (σ' := (87, [some (.ref 22), some (.ref 1), some (.int v2), some (.int v3), some (.int v4)], [], (am_sB x 23 (vp_updL (x.2.2.2 23) v4.toNatClampNeg (((x.2.2.2 24) v4.toNatClampNeg) + (am_co (x.2.2.2 24) (x.2.2.2 2) v4)))))) rfl (by exact vp_in_iff.mpr c4) ?_
        refine am_Rr.go 2 (σ' := (58, [some (.ref 22), some (.ref 1), some (.int v2), some (.int v3), some (.int (v4 + 1))], [], (am_sB x 23 (vp_updL (x.2.2.2 23) v4.toNatClampNeg (((x.2.2.2 24) v4.toNatClampNeg) + (am_co (x.2.2.2 24) (x.2.2.2 2) v4)))))) rfl ?_
        exact ih _ _ _ _ hF hk
      · rw [if_neg c4] at hF
        cases hF
noncomputable def L_X0_walk_22_1_35 : Nat → Int32 → Int32 → am_X → Option (Unit × am_X)
  | 0, _, _, _ => none
  | n + 1, v2, v3, x => (if v2 ≤ v3 then some ((), x) else (match L_X0_walk_22_1_58 100 v2 v3 (0 : Int32) (am_sB x 24 (va_cpy (x.2.2.2 23) (x.2.2.2 24) 0 0 36)) with | none => none | some (v6, v7, v8, x5) => L_X0_walk_22_1_35 n v6 (v7 + 1) x5))
theorem L_X0_walk_22_1_35_ok (d : Nat) (res : Unit × am_X) : ∀ (n : Nat) (v2 : Int32) (v3 : Int32) (x : am_X), L_X0_walk_22_1_35 n v2 v3 x = some res → am_Rr (d + 4) kX0_walk (35, [some (.ref 22), some (.ref 1), some (.int v2), some (.int v3), none], [], x) (fun ro y => ro = none ∧ res.2 = y) := by
  intro n
  induction n with
  | zero =>
    intro v2 v3 x hF
    cases hF
  | succ n ih =>
    intro v2 v3 x hF
    rw [L_X0_walk_22_1_35] at hF
    refine am_Rr.go 3 (σ' := (if v2 ≤ v3 then 99 else 40, [some (.ref 22), some (.ref 1), some (.int v2), some (.int v3), none], [], x)) rfl ?_
    refine am_Rr.ite (fun h2 => ?_) (fun h2 => ?_)
    · rw [if_pos h2] at hF
      obtain rfl := Option.some.inj hF
      exact am_Rr.ret (v := none) (x := x) rfl (by trivial) ⟨rfl, rfl⟩
    · rw [if_neg h2] at hF
      refine am_Rr.go 7 (σ' := (52, [some (.ref 22), some (.ref 1), some (.int v2), some (.int v3), none], [.int 36, .int 0, .ref 24, .int 0, .ref 23], x)) rfl ?_
      refine am_Rr.chk (σ' := (55, [some (.ref 22), some (.ref 1), some (.int v2), some (.int v3), none], [], (am_sB x 24 (va_cpy (x.2.2.2 23) (x.2.2.2 24) 0 0 36)))) rfl (by decide) ?_
      refine am_Rr.go 2 (σ' := (58, [some (.ref 22), some (.ref 1), some (.int v2), some (.int v3), some (.int 0)], [], (am_sB x 24 (va_cpy (x.2.2.2 23) (x.2.2.2 24) 0 0 36)))) rfl ?_
      cases g9 : L_X0_walk_22_1_58 100 v2 v3 (0 : Int32) (am_sB x 24 (va_cpy (x.2.2.2 23) (x.2.2.2 24) 0 0 36)) with
      | none => rw [g9] at hF; cases hF
      | some q_ =>
        obtain ⟨v6, v7, v8, x5⟩ := q_
        rw [g9] at hF
        dsimp only at hF
        refine L_X0_walk_22_1_58_ok d _ v6 v7 v8 x5 _ _ _ _ _ g9 ?_
        refine am_Rr.go 2 (σ' := (35, [some (.ref 22), some (.ref 1), some (.int v6), some (.int (v7 + 1)), some (.int v8)], [], x5)) rfl ?_
        refine am_Rr.weak (ls0 := [some (.ref 22), some (.ref 1), some (.int v6), some (.int (v7 + 1)), none]) (by simp [am_le]) ?_
        exact ih _ _ _ hF
noncomputable def L_X0_walk_22_1_2 : Nat → Int32 → Int32 → am_X → Option (Unit × am_X)
  | 0, _, _, _ => none
  | n + 1, v2, v3, x => (if (36 : Int32) ≤ v3 then L_X0_walk_22_1_35 100 v2 (0 : Int32) x else (if v3 = (x.1 36) then (if 0 ≤ v3.toInt ∧ v3.toInt < 36 then L_X0_walk_22_1_2 n v2 (v3 + 1) (am_sB x 23 (vp_updL (x.2.2.2 23) v3.toNatClampNeg 1)) else none) else (if 0 ≤ v3.toInt ∧ v3.toInt < 36 then L_X0_walk_22_1_2 n v2 (v3 + 1) (am_sB x 23 (vp_updL (x.2.2.2 23) v3.toNatClampNeg 0)) else none)))
theorem L_X0_walk_22_1_2_ok (d : Nat) (res : Unit × am_X) : ∀ (n : Nat) (v2 : Int32) (v3 : Int32) (x : am_X), L_X0_walk_22_1_2 n v2 v3 x = some res → am_Rr (d + 4) kX0_walk (2, [some (.ref 22), some (.ref 1), some (.int v2), some (.int v3), none], [], x) (fun ro y => ro = none ∧ res.2 = y) := by
  intro n
  induction n with
  | zero =>
    intro v2 v3 x hF
    cases hF
  | succ n ih =>
    intro v2 v3 x hF
    rw [L_X0_walk_22_1_2] at hF
    refine am_Rr.go 3 (σ' := (if (36 : Int32) ≤ v3 then 33 else 8, [some (.ref 22), some (.ref 1), some (.int v2), some (.int v3), none], [], x)) rfl ?_
    refine am_Rr.ite (fun h1 => ?_) (fun h1 => ?_)
    · rw [if_pos h1] at hF
      refine am_Rr.go 2 (σ' := (35, [some (.ref 22), some (.ref 1), some (.int v2), some (.int 0), none], [], x)) rfl ?_
      exact L_X0_walk_22_1_35_ok d res _ _ _ _ hF
    · rw [if_neg h1] at hF
      refine am_Rr.go 7 (σ' := (if v3 = (x.1 36) then 21 else 25, [some (.ref 22), some (.ref 1), some (.int v2), some (.int v3), none], [.int v3, .ref 23], x)) rfl ?_
      refine am_Rr.ite (fun h13 => ?_) (fun h13 => ?_)
      · rw [if_pos h13] at hF
        refine am_Rr.go 2 (σ' := (26, [some (.ref 22), some (.ref 1), some (.int v2), some (.int v3), none], [.long 1, .int v3, .ref 23], x)) rfl ?_
        by_cases c14 : 0 ≤ v3.toInt ∧ v3.toInt < 36
        · rw [if_pos c14] at hF
          refine am_Rr.chk (σ' := (27, [some (.ref 22), some (.ref 1), some (.int v2), some (.int v3), none], [], (am_sB x 23 (vp_updL (x.2.2.2 23) v3.toNatClampNeg 1)))) rfl (by exact vp_in_iff.mpr c14) ?_
          refine am_Rr.go 2 (σ' := (2, [some (.ref 22), some (.ref 1), some (.int v2), some (.int (v3 + 1)), none], [], (am_sB x 23 (vp_updL (x.2.2.2 23) v3.toNatClampNeg 1)))) rfl ?_
          exact ih _ _ _ hF
        · rw [if_neg c14] at hF
          cases hF
      · rw [if_neg h13] at hF
        refine am_Rr.go 1 (σ' := (26, [some (.ref 22), some (.ref 1), some (.int v2), some (.int v3), none], [.long 0, .int v3, .ref 23], x)) rfl ?_
        by_cases c15 : 0 ≤ v3.toInt ∧ v3.toInt < 36
        · rw [if_pos c15] at hF
          refine am_Rr.chk (σ' := (27, [some (.ref 22), some (.ref 1), some (.int v2), some (.int v3), none], [], (am_sB x 23 (vp_updL (x.2.2.2 23) v3.toNatClampNeg 0)))) rfl (by exact vp_in_iff.mpr c15) ?_
          refine am_Rr.go 2 (σ' := (2, [some (.ref 22), some (.ref 1), some (.int v2), some (.int (v3 + 1)), none], [], (am_sB x 23 (vp_updL (x.2.2.2 23) v3.toNatClampNeg 0)))) rfl ?_
          exact ih _ _ _ hF
        · rw [if_neg c15] at hF
          cases hF
noncomputable def G_X0_walk_22_1 (a : Int32) (x : am_X) : Option (Unit × am_X) := L_X0_walk_22_1_2 100 a (0 : Int32) x
theorem A_X0_walk_22_1 (d : Nat) {a : Int32} {x : am_X} {res : Unit × am_X} (hF : G_X0_walk_22_1 a x = some res) : am_T (d + 5) mX0_walk [.ref 22, .ref 1, .int a] x (fun ro y => ro = none ∧ res.2 = y) := by
  refine am_T.of rfl ?_
  show am_Rr (d + 4) kX0_walk (0, [some (.ref 22), some (.ref 1), some (.int a), none, none], [], x) _
  unfold G_X0_walk_22_1 at hF
  refine am_Rr.go 2 (σ' := (2, [some (.ref 22), some (.ref 1), some (.int a), some (.int 0), none], [], x)) rfl ?_
  exact L_X0_walk_22_1_2_ok d res _ _ _ _ hF
noncomputable def G_X7_letter (a : Int32) (x : am_X) : Option (Int32 × am_X) := (if (0 : Int32) ≤ a then (if (255 : Int32) < a then (match G_X7_refused (-6 : Int32) x with | none => none | some (r3, x4) => some (r3, x4)) else (if 96 ≤ (x.1 449).toInt then (match G_X7_refused (-6 : Int32) x with | none => none | some (r7, x8) => some (r7, x8)) else (if 0 ≤ (x.1 449).toInt ∧ (x.1 449).toInt < 96 then some (((x.1 449) + 1), (am_uI (am_sA x 15 (upd (x.2.2.1 15) (x.1 449).toNatClampNeg a)) 449 ((x.1 449) + 1))) else some ((x.1 449), x)))) else (match G_X7_refused (-4 : Int32) x with | none => none | some (r12, x13) => some (r12, x13)))
theorem A_X7_letter (d : Nat) {a : Int32} {x : am_X} {res : Int32 × am_X} (hF : G_X7_letter a x = some res) : am_T (d + 3) mX7_letter [.ref 0, .int a] x (fun ro y => ro = some (.int res.1) ∧ res.2 = y) := by
  refine am_T.of rfl ?_
  show am_Rr (d + 2) kX7_letter (0, [some (.ref 0), some (.int a)], [], x) _
  unfold G_X7_letter at hF
  refine am_Rr.go 2 (σ' := (if (0 : Int32) ≤ a then 11 else 4, [some (.ref 0), some (.int a)], [], x)) rfl ?_
  refine am_Rr.ite (fun h1 => ?_) (fun h1 => ?_)
  · rw [if_pos h1] at hF
    refine am_Rr.go 3 (σ' := (if (255 : Int32) < a then 31 else 18, [some (.ref 0), some (.int a)], [], x)) rfl ?_
    refine am_Rr.ite (fun h2 => ?_) (fun h2 => ?_)
    · rw [if_pos h2] at hF
      refine am_Rr.go 2 (σ' := (34, [some (.ref 0), some (.int a)], [.int (-6), .ref 0], x)) rfl ?_
      cases g5 : G_X7_refused (-6 : Int32) x with
      | none => rw [g5] at hF; cases hF
      | some q_ =>
        obtain ⟨r3, x4⟩ := q_
        rw [g5] at hF
        dsimp only at hF
        refine am_Rr.call (pc := 37) (ls := [some (.ref 0), some (.int a)]) (st := []) rfl (A_X7_refused d g5) ?_
        rintro _ _ ⟨rfl, rfl⟩
        show am_Rr _ _ (37, [some (.ref 0), some (.int a)], [.int r3], x4) _
        obtain rfl := Option.some.inj hF
        exact am_Rr.ret (v := some (.int r3)) (x := x4) rfl (by trivial) ⟨rfl, rfl⟩
    · rw [if_neg h2] at hF
      refine am_Rr.go 3 (σ' := (25, [some (.ref 0), some (.int a)], [.ref 14], x)) rfl ?_
      refine am_Rr.call (pc := 28) (ls := [some (.ref 0), some (.int a)]) (st := []) rfl (S_isFull_14 d  x) ?_
      rintro _ _ ⟨rfl, (⟨rfl, b6⟩ | ⟨rfl, b6⟩)⟩
      · rw [if_pos b6] at hF
        show am_Rr _ _ (28, [some (.ref 0), some (.int a)], [.int 1], x) _
        refine am_Rr.go 3 (σ' := (34, [some (.ref 0), some (.int a)], [.int (-6), .ref 0], x)) rfl ?_
        cases g9 : G_X7_refused (-6 : Int32) x with
        | none => rw [g9] at hF; cases hF
        | some q_ =>
          obtain ⟨r7, x8⟩ := q_
          rw [g9] at hF
          dsimp only at hF
          refine am_Rr.call (pc := 37) (ls := [some (.ref 0), some (.int a)]) (st := []) rfl (A_X7_refused d g9) ?_
          rintro _ _ ⟨rfl, rfl⟩
          show am_Rr _ _ (37, [some (.ref 0), some (.int a)], [.int r7], x8) _
          obtain rfl := Option.some.inj hF
          exact am_Rr.ret (v := some (.int r7)) (x := x8) rfl (by trivial) ⟨rfl, rfl⟩
      · rw [if_neg b6] at hF
        show am_Rr _ _ (28, [some (.ref 0), some (.int a)], [.int 0], x) _
        refine am_Rr.go 5 (σ' := (46, [some (.ref 0), some (.int a)], [.int a, .ref 14], x)) rfl ?_
        refine am_Rr.call (pc := 49) (ls := [some (.ref 0), some (.int a)]) (st := []) rfl (S_add_14 d a x) ?_
        rintro _ _ (⟨b10, rfl, rfl⟩ | ⟨b11, rfl, rfl⟩)
        · rw [if_pos b10] at hF
          show am_Rr _ _ (49, [some (.ref 0), some (.int a)], [.int ((x.1 449) + 1)], (am_uI (am_sA x 15 (upd (x.2.2.1 15) (x.1 449).toNatClampNeg a)) 449 ((x.1 449) + 1))) _
          obtain rfl := Option.some.inj hF
          exact am_Rr.ret (v := some (.int ((x.1 449) + 1))) (x := (am_uI (am_sA x 15 (upd (x.2.2.1 15) (x.1 449).toNatClampNeg a)) 449 ((x.1 449) + 1))) rfl (by trivial) ⟨rfl, rfl⟩
        · rw [if_neg b11] at hF
          show am_Rr _ _ (49, [some (.ref 0), some (.int a)], [.int (x.1 449)], x) _
          obtain rfl := Option.some.inj hF
          exact am_Rr.ret (v := some (.int (x.1 449))) (x := x) rfl (by trivial) ⟨rfl, rfl⟩
  · rw [if_neg h1] at hF
    refine am_Rr.go 2 (σ' := (7, [some (.ref 0), some (.int a)], [.int (-4), .ref 0], x)) rfl ?_
    cases g14 : G_X7_refused (-4 : Int32) x with
    | none => rw [g14] at hF; cases hF
    | some q_ =>
      obtain ⟨r12, x13⟩ := q_
      rw [g14] at hF
      dsimp only at hF
      refine am_Rr.call (pc := 10) (ls := [some (.ref 0), some (.int a)]) (st := []) rfl (A_X7_refused d g14) ?_
      rintro _ _ ⟨rfl, rfl⟩
      show am_Rr _ _ (10, [some (.ref 0), some (.int a)], [.int r12], x13) _
      obtain rfl := Option.some.inj hF
      exact am_Rr.ret (v := some (.int r12)) (x := x13) rfl (by trivial) ⟨rfl, rfl⟩
noncomputable def G_X7_square (a : Int32) (b : Int32) (x : am_X) : Option (Int32 × am_X) := (if am_sq a then (if b = 0 then some ((am_kat (x.2.2.2 2) a), x) else (if b = 1 then (if am_hasb (am_open (x.2.2.2 2)) a then some ((1 : Int32), x) else some ((0 : Int32), x)) else (if b = 2 then some ((am_sof (x.2.2.2 2) (x.1 38) a), x) else (match G_X7_refused (-2 : Int32) x with | none => none | some (r6, x7) => some (r6, x7))))) else (match G_X7_refused (-1 : Int32) x with | none => none | some (r9, x10) => some (r9, x10)))
theorem A_X7_square (d : Nat) {a : Int32} {b : Int32} {x : am_X} {res : Int32 × am_X} (hF : G_X7_square a b x = some res) : am_T (d + 7) mX7_square [.ref 0, .int a, .int b] x (fun ro y => ro = some (.int res.1) ∧ res.2 = y) := by
  refine am_T.of rfl ?_
  show am_Rr (d + 6) kX7_square (0, [some (.ref 0), some (.int a), some (.int b)], [], x) _
  unfold G_X7_square at hF
  refine am_Rr.go 1 (σ' := (1, [some (.ref 0), some (.int a), some (.int b)], [.int a], x)) rfl ?_
  refine am_Rr.call (pc := 4) (ls := [some (.ref 0), some (.int a), some (.int b)]) (st := []) rfl (S_isSquare (d + 4) a x) ?_
  rintro _ _ ⟨rfl, (⟨rfl, b1⟩ | ⟨rfl, b1⟩)⟩
  · rw [if_pos b1] at hF
    show am_Rr _ _ (4, [some (.ref 0), some (.int a), some (.int b)], [.int 1], x) _
    refine am_Rr.go 3 (σ' := ((if b = 0 then 40 else (if b = 1 then 49 else (if b = 2 then 64 else 73))), [some (.ref 0), some (.int a), some (.int b)], [], x)) rfl ?_
    refine am_Rr.ite (fun h2 => ?_) (fun h2 => ?_)
    · rw [if_pos h2] at hF
      refine am_Rr.go 3 (σ' := (45, [some (.ref 0), some (.int a), some (.int b)], [.int a, .ref 1], x)) rfl ?_
      refine am_Rr.call (pc := 48) (ls := [some (.ref 0), some (.int a), some (.int b)]) (st := []) rfl (S_kindAt_1 (d + 1) a x) ?_
      rintro _ _ ⟨rfl, rfl⟩
      show am_Rr _ _ (48, [some (.ref 0), some (.int a), some (.int b)], [.int (am_kat (x.2.2.2 2) a)], x) _
      obtain rfl := Option.some.inj hF
      exact am_Rr.ret (v := some (.int (am_kat (x.2.2.2 2) a))) (x := x) rfl (by trivial) ⟨rfl, rfl⟩
    rw [if_neg h2] at hF
    refine am_Rr.ite (fun h3 => ?_) (fun h3 => ?_)
    · rw [if_pos h3] at hF
      refine am_Rr.go 2 (σ' := (53, [some (.ref 0), some (.int a), some (.int b)], [.ref 1], x)) rfl ?_
      refine am_Rr.call (pc := 56) (ls := [some (.ref 0), some (.int a), some (.int b)]) (st := []) rfl (S_open_1 (d + 3)  x) ?_
      rintro _ _ ⟨rfl, rfl⟩
      show am_Rr _ _ (56, [some (.ref 0), some (.int a), some (.int b)], [.long (am_open (x.2.2.2 2))], x) _
      refine am_Rr.go 1 (σ' := (57, [some (.ref 0), some (.int a), some (.int b)], [.int a, .long (am_open (x.2.2.2 2))], x)) rfl ?_
      refine am_Rr.call (pc := 60) (ls := [some (.ref 0), some (.int a), some (.int b)]) (st := []) rfl (S_has (d + 2) (am_open (x.2.2.2 2)) a x) ?_
      rintro _ _ ⟨rfl, (⟨rfl, b4⟩ | ⟨rfl, b4⟩)⟩
      · rw [if_pos b4] at hF
        show am_Rr _ _ (60, [some (.ref 0), some (.int a), some (.int b)], [.int 1], x) _
        refine am_Rr.call (pc := 63) (ls := [some (.ref 0), some (.int a), some (.int b)]) (st := []) rfl (S_yesOrNo (d + 4) (1 : Int32) (by first | exact Or.inl rfl | exact Or.inr rfl) x) ?_
        rintro _ _ ⟨rfl, rfl⟩
        show am_Rr _ _ (63, [some (.ref 0), some (.int a), some (.int b)], [.int 1], x) _
        obtain rfl := Option.some.inj hF
        exact am_Rr.ret (v := some (.int 1)) (x := x) rfl (by trivial) ⟨rfl, rfl⟩
      · rw [if_neg b4] at hF
        show am_Rr _ _ (60, [some (.ref 0), some (.int a), some (.int b)], [.int 0], x) _
        refine am_Rr.call (pc := 63) (ls := [some (.ref 0), some (.int a), some (.int b)]) (st := []) rfl (S_yesOrNo (d + 4) (0 : Int32) (by first | exact Or.inl rfl | exact Or.inr rfl) x) ?_
        rintro _ _ ⟨rfl, rfl⟩
        show am_Rr _ _ (63, [some (.ref 0), some (.int a), some (.int b)], [.int 0], x) _
        obtain rfl := Option.some.inj hF
        exact am_Rr.ret (v := some (.int 0)) (x := x) rfl (by trivial) ⟨rfl, rfl⟩
    rw [if_neg h3] at hF
    refine am_Rr.ite (fun h5 => ?_) (fun h5 => ?_)
    · rw [if_pos h5] at hF
      refine am_Rr.go 3 (σ' := (69, [some (.ref 0), some (.int a), some (.int b)], [.int a, .ref 1], x)) rfl ?_
      refine am_Rr.call (pc := 72) (ls := [some (.ref 0), some (.int a), some (.int b)]) (st := []) rfl (S_stepsOff_1 d a x) ?_
      rintro _ _ ⟨rfl, rfl⟩
      show am_Rr _ _ (72, [some (.ref 0), some (.int a), some (.int b)], [.int (am_sof (x.2.2.2 2) (x.1 38) a)], x) _
      obtain rfl := Option.some.inj hF
      exact am_Rr.ret (v := some (.int (am_sof (x.2.2.2 2) (x.1 38) a))) (x := x) rfl (by trivial) ⟨rfl, rfl⟩
    rw [if_neg h5] at hF
    refine am_Rr.go 2 (σ' := (76, [some (.ref 0), some (.int a), some (.int b)], [.int (-2), .ref 0], x)) rfl ?_
    cases g8 : G_X7_refused (-2 : Int32) x with
    | none => rw [g8] at hF; cases hF
    | some q_ =>
      obtain ⟨r6, x7⟩ := q_
      rw [g8] at hF
      dsimp only at hF
      refine am_Rr.call (pc := 79) (ls := [some (.ref 0), some (.int a), some (.int b)]) (st := []) rfl (A_X7_refused (d + 4) g8) ?_
      rintro _ _ ⟨rfl, rfl⟩
      show am_Rr _ _ (79, [some (.ref 0), some (.int a), some (.int b)], [.int r6], x7) _
      obtain rfl := Option.some.inj hF
      exact am_Rr.ret (v := some (.int r6)) (x := x7) rfl (by trivial) ⟨rfl, rfl⟩
  · rw [if_neg b1] at hF
    show am_Rr _ _ (4, [some (.ref 0), some (.int a), some (.int b)], [.int 0], x) _
    refine am_Rr.go 3 (σ' := (9, [some (.ref 0), some (.int a), some (.int b)], [.int (-1), .ref 0], x)) rfl ?_
    cases g11 : G_X7_refused (-1 : Int32) x with
    | none => rw [g11] at hF; cases hF
    | some q_ =>
      obtain ⟨r9, x10⟩ := q_
      rw [g11] at hF
      dsimp only at hF
      refine am_Rr.call (pc := 12) (ls := [some (.ref 0), some (.int a), some (.int b)]) (st := []) rfl (A_X7_refused (d + 4) g11) ?_
      rintro _ _ ⟨rfl, rfl⟩
      show am_Rr _ _ (12, [some (.ref 0), some (.int a), some (.int b)], [.int r9], x10) _
      obtain rfl := Option.some.inj hF
      exact am_Rr.ret (v := some (.int r9)) (x := x10) rfl (by trivial) ⟨rfl, rfl⟩
