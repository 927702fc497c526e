noncomputable def G_X8_isNoSeeker (a : Int32) (x : am_X) : Option (Int32 × am_X) := (if a < 0 then some ((1 : Int32), x) else (if a < ((x.2.2.1 29) 3) then some ((0 : Int32), x) else some ((1 : Int32), x)))
theorem A_X8_isNoSeeker (d : Nat) {a : Int32} {x : am_X} {res : Int32 × am_X} (hF : G_X8_isNoSeeker a x = some res) : am_T (d + 2) mX8_isNoSeeker [.ref 27, .int a] x (fun ro y => ro = some (.int res.1) ∧ res.2 = y) := by
  refine am_T.of rfl ?_
  show am_Rr (d + 1) kX8_isNoSeeker (0, [some (.ref 27), some (.int a)], [], x) _
  unfold G_X8_isNoSeeker at hF
  refine am_Rr.go 2 (σ' := (if a < 0 then 14 else 4, [some (.ref 27), some (.int a)], [], x)) rfl ?_
  refine am_Rr.ite (fun h1 => ?_) (fun h1 => ?_)
  · rw [if_pos h1] at hF
    refine am_Rr.go 2 (σ' := (19, [some (.ref 27), some (.int a)], [.int 1], x)) rfl ?_
    obtain rfl := Option.some.inj hF
    exact am_Rr.ret (v := some (.int 1)) (x := x) rfl (by first | exact Or.inl rfl | exact Or.inr rfl | assumption) ⟨rfl, rfl⟩
  · rw [if_neg h1] at hF
    refine am_Rr.go 4 (σ' := (10, [some (.ref 27), some (.int a)], [.int 3, .ref 29, .int a], x)) rfl ?_
    refine am_Rr.chk (σ' := (11, [some (.ref 27), some (.int a)], [.int ((x.2.2.1 29) 3), .int a], x)) rfl (by unfold vp_in; decide) ?_
    refine am_Rr.go 1 (σ' := (if a < ((x.2.2.1 29) 3) then 18 else 14, [some (.ref 27), some (.int a)], [], x)) rfl ?_
    refine am_Rr.ite (fun h2 => ?_) (fun h2 => ?_)
    · rw [if_pos h2] at hF
      refine am_Rr.go 1 (σ' := (19, [some (.ref 27), some (.int a)], [.int 0], x)) rfl ?_
      obtain rfl := Option.some.inj hF
      exact am_Rr.ret (v := some (.int 0)) (x := x) rfl (by first | exact Or.inl rfl | exact Or.inr rfl | assumption) ⟨rfl, rfl⟩
    · rw [if_neg h2] at hF
      refine am_Rr.go 2 (σ' := (19, [some (.ref 27), some (.int a)], [.int 1], x)) rfl ?_
      obtain rfl := Option.some.inj hF
      exact am_Rr.ret (v := some (.int 1)) (x := x) rfl (by first | exact Or.inl rfl | exact Or.inr rfl | assumption) ⟨rfl, rfl⟩
noncomputable def G_X8_beside (a : Int32) (b : Int32) (x : am_X) : Option (Int32 × am_X) := (if b = 0 then (if a ≤ 5 then some ((-9 : Int32), x) else some ((a - 6), x)) else (if b = 1 then (if (a - a / 6 * 6) ≤ 0 then some ((-9 : Int32), x) else some ((a - 1), x)) else (if b = 2 then (if (5 : Int32) ≤ (a - a / 6 * 6) then some ((-9 : Int32), x) else some ((a + 1), x)) else (if (30 : Int32) ≤ a then some ((-9 : Int32), x) else some ((a + 6), x)))))
theorem A_X8_beside (d : Nat) {a : Int32} {b : Int32} {x : am_X} {res : Int32 × am_X} (hF : G_X8_beside a b x = some res) : am_T (d + 2) mX8_beside [.int a, .int b] x (fun ro y => ro = some (.int res.1) ∧ res.2 = y) := by
  refine am_T.of rfl ?_
  show am_Rr (d + 1) kX8_beside (0, [some (.int a), some (.int b)], [], x) _
  unfold G_X8_beside at hF
  refine am_Rr.go 2 (σ' := ((if b = 0 then 28 else (if b = 1 then 43 else (if b = 2 then 59 else 76))), [some (.int a), some (.int b)], [], x)) rfl ?_
  refine am_Rr.ite (fun h1 => ?_) (fun h1 => ?_)
  · rw [if_pos h1] at hF
    refine am_Rr.go 3 (σ' := (if a ≤ 5 then 40 else 33, [some (.int a), some (.int b)], [], x)) rfl ?_
    refine am_Rr.ite (fun h2 => ?_) (fun h2 => ?_)
    · rw [if_pos h2] at hF
      refine am_Rr.go 1 (σ' := (42, [some (.int a), some (.int b)], [.int (-9)], x)) rfl ?_
      obtain rfl := Option.some.inj hF
      exact am_Rr.ret (v := some (.int (-9))) (x := x) rfl (by trivial) ⟨rfl, rfl⟩
    · rw [if_neg h2] at hF
      refine am_Rr.go 4 (σ' := (42, [some (.int a), some (.int b)], [.int (a - 6)], x)) rfl ?_
      obtain rfl := Option.some.inj hF
      exact am_Rr.ret (v := some (.int (a - 6))) (x := x) rfl (by trivial) ⟨rfl, rfl⟩
  rw [if_neg h1] at hF
  refine am_Rr.ite (fun h3 => ?_) (fun h3 => ?_)
  · rw [if_pos h3] at hF
    refine am_Rr.go 2 (σ' := (46, [some (.int a), some (.int b)], [.int 6, .int a], x)) rfl ?_
    refine am_Rr.chk (σ' := (47, [some (.int a), some (.int b)], [.int (a - a / 6 * 6)], x)) rfl (by decide) ?_
    refine am_Rr.go 1 (σ' := (if (a - a / 6 * 6) ≤ 0 then 56 else 50, [some (.int a), some (.int b)], [], x)) rfl ?_
    refine am_Rr.ite (fun h4 => ?_) (fun h4 => ?_)
    · rw [if_pos h4] at hF
      refine am_Rr.go 1 (σ' := (58, [some (.int a), some (.int b)], [.int (-9)], x)) rfl ?_
      obtain rfl := Option.some.inj hF
      exact am_Rr.ret (v := some (.int (-9))) (x := x) rfl (by trivial) ⟨rfl, rfl⟩
    · rw [if_neg h4] at hF
      refine am_Rr.go 4 (σ' := (58, [some (.int a), some (.int b)], [.int (a - 1)], x)) rfl ?_
      obtain rfl := Option.some.inj hF
      exact am_Rr.ret (v := some (.int (a - 1))) (x := x) rfl (by trivial) ⟨rfl, rfl⟩
  rw [if_neg h3] at hF
  refine am_Rr.ite (fun h5 => ?_) (fun h5 => ?_)
  · rw [if_pos h5] at hF
    refine am_Rr.go 2 (σ' := (62, [some (.int a), some (.int b)], [.int 6, .int a], x)) rfl ?_
    refine am_Rr.chk (σ' := (63, [some (.int a), some (.int b)], [.int (a - a / 6 * 6)], x)) rfl (by decide) ?_
    refine am_Rr.go 2 (σ' := (if (5 : Int32) ≤ (a - a / 6 * 6) then 73 else 67, [some (.int a), some (.int b)], [], x)) rfl ?_
    refine am_Rr.ite (fun h6 => ?_) (fun h6 => ?_)
    · rw [if_pos h6] at hF
      refine am_Rr.go 1 (σ' := (75, [some (.int a), some (.int b)], [.int (-9)], x)) rfl ?_
      obtain rfl := Option.some.inj hF
      exact am_Rr.ret (v := some (.int (-9))) (x := x) rfl (by trivial) ⟨rfl, rfl⟩
    · rw [if_neg h6] at hF
      refine am_Rr.go 4 (σ' := (75, [some (.int a), some (.int b)], [.int (a + 1)], x)) rfl ?_
      obtain rfl := Option.some.inj hF
      exact am_Rr.ret (v := some (.int (a + 1))) (x := x) rfl (by trivial) ⟨rfl, rfl⟩
  rw [if_neg h5] at hF
  refine am_Rr.go 3 (σ' := (if (30 : Int32) ≤ a then 89 else 82, [some (.int a), some (.int b)], [], x)) rfl ?_
  refine am_Rr.ite (fun h7 => ?_) (fun h7 => ?_)
  · rw [if_pos h7] at hF
    refine am_Rr.go 1 (σ' := (91, [some (.int a), some (.int b)], [.int (-9)], x)) rfl ?_
    obtain rfl := Option.some.inj hF
    exact am_Rr.ret (v := some (.int (-9))) (x := x) rfl (by trivial) ⟨rfl, rfl⟩
  · rw [if_neg h7] at hF
    refine am_Rr.go 4 (σ' := (91, [some (.int a), some (.int b)], [.int (a + 6)], x)) rfl ?_
    obtain rfl := Option.some.inj hF
    exact am_Rr.ret (v := some (.int (a + 6))) (x := x) rfl (by trivial) ⟨rfl, rfl⟩
noncomputable def L_X8_inSet_4 : Nat → Int32 → Int32 → am_X → Option (Int32 × Int32 × am_X)
  | 0, _, _, _ => none
  | n + 1, v1, v2, x => (if (36 : Int32) ≤ v2 then some (v1, v2, x) else (if 0 ≤ v2.toInt ∧ v2.toInt < 36 then (if ((x.2.2.1 39) v2.toNatClampNeg) = 0 then L_X8_inSet_4 n (v1 + 0) (v2 + 1) x else L_X8_inSet_4 n (v1 + 1) (v2 + 1) x) else none))
theorem L_X8_inSet_4_ok (d : Nat) (post : Option Value → am_X → Prop) (w1 : Int32) (w2 : Int32) (y : am_X) : ∀ (n : Nat) (v1 : Int32) (v2 : Int32) (x : am_X), L_X8_inSet_4 n v1 v2 x = some (w1, w2, y) → am_Rr (d + 1) kX8_inSet (33, [some (.ref 27), some (.int w1), some (.int w2)], [], y) post → am_Rr (d + 1) kX8_inSet (4, [some (.ref 27), some (.int v1), some (.int v2)], [], x) post := by
  intro n
  induction n with
  | zero =>
    intro v1 v2 x hF
    cases hF
  | succ n ih =>
    intro v1 v2 x hF hk
    rw [L_X8_inSet_4] at hF
    refine am_Rr.go 3 (σ' := (if (36 : Int32) ≤ v2 then 33 else 10, [some (.ref 27), some (.int v1), some (.int v2)], [], x)) rfl ?_
    refine am_Rr.ite (fun h1 => ?_) (fun h1 => ?_)
    · rw [if_pos h1] at hF
      cases hF
      exact hk
    · rw [if_neg h1] at hF
      refine am_Rr.go 4 (σ' := (16, [some (.ref 27), some (.int v1), some (.int v2)], [.int v2, .ref 39, .int v1], x)) rfl ?_
      by_cases c2 : 0 ≤ v2.toInt ∧ v2.toInt < 36
      · rw [if_pos c2] at hF
        refine am_Rr.chk (σ' := (17, [some (.ref 27), some (.int v1), some (.int v2)], [.int ((x.2.2.1 39) v2.toNatClampNeg), .int v1], x)) rfl (by exact vp_in_iff.mpr c2) ?_
        refine am_Rr.go 1 (σ' := (if ((x.2.2.1 39) v2.toNatClampNeg) = 0 then 24 else 20, [some (.ref 27), some (.int v1), some (.int v2)], [.int v1], x)) rfl ?_
        refine am_Rr.ite (fun h3 => ?_) (fun h3 => ?_)
        · rw [if_pos h3] at hF
          refine am_Rr.go 5 (σ' := (4, [some (.ref 27), some (.int (v1 + 0)), some (.int (v2 + 1))], [], x)) rfl ?_
          exact ih _ _ _ hF hk
        · rw [if_neg h3] at hF
          refine am_Rr.go 6 (σ' := (4, [some (.ref 27), some (.int (v1 + 1)), some (.int (v2 + 1))], [], x)) rfl ?_
          exact ih _ _ _ hF hk
      · rw [if_neg c2] at hF
        cases hF
noncomputable def G_X8_inSet  (x : am_X) : Option (Int32 × am_X) := (match L_X8_inSet_4 1000 (0 : Int32) (0 : Int32) x with | none => none | some (v5, v6, x4) => some (v5, x4))
theorem A_X8_inSet (d : Nat)  {x : am_X} {res : Int32 × am_X} (hF : G_X8_inSet  x = some res) : am_T (d + 2) mX8_inSet [.ref 27] x (fun ro y => ro = some (.int res.1) ∧ res.2 = y) := by
  refine am_T.of rfl ?_
  show am_Rr (d + 1) kX8_inSet (0, [some (.ref 27), none, none], [], x) _
  unfold G_X8_inSet at hF
  refine am_Rr.go 4 (σ' := (4, [some (.ref 27), some (.int 0), some (.int 0)], [], x)) rfl ?_
  cases g7 : L_X8_inSet_4 1000 (0 : Int32) (0 : Int32) x with
  | none => rw [g7] at hF; cases hF
  | some q_ =>
    obtain ⟨v5, v6, x4⟩ := q_
    rw [g7] at hF
    dsimp only at hF
    refine L_X8_inSet_4_ok d _ v5 v6 x4 _ _ _ _ g7 ?_
    refine am_Rr.go 1 (σ' := (34, [some (.ref 27), some (.int v5), some (.int v6)], [.int v5], x4)) rfl ?_
    obtain rfl := Option.some.inj hF
    exact am_Rr.ret (v := some (.int v5)) (x := x4) rfl (by trivial) ⟨rfl, rfl⟩
noncomputable def L_X8_holdNone_2 : Nat → Int32 → am_X → Option (Int32 × am_X)
  | 0, _, _ => none
  | n + 1, v1, x => (if (36 : Int32) ≤ v1 then some (v1, x) else (if 0 ≤ v1.toInt ∧ v1.toInt < 36 then L_X8_holdNone_2 n (v1 + 1) (am_sA x 37 (upd (x.2.2.1 37) v1.toNatClampNeg 0)) else none))
theorem L_X8_holdNone_2_ok (d : Nat) (post : Option Value → am_X → Prop) (w1 : Int32) (y : am_X) : ∀ (n : Nat) (v1 : Int32) (x : am_X), L_X8_holdNone_2 n v1 x = some (w1, y) → am_Rr (d + 1) kX8_holdNone (21, [some (.ref 27), some (.int w1)], [], y) post → am_Rr (d + 1) kX8_holdNone (2, [some (.ref 27), some (.int v1)], [], x) post := by
  intro n
  induction n with
  | zero =>
    intro v1 x hF
    cases hF
  | succ n ih =>
    intro v1 x hF hk
    rw [L_X8_holdNone_2] at hF
    refine am_Rr.go 3 (σ' := (if (36 : Int32) ≤ v1 then 21 else 8, [some (.ref 27), some (.int v1)], [], x)) rfl ?_
    refine am_Rr.ite (fun h1 => ?_) (fun h1 => ?_)
    · rw [if_pos h1] at hF
      cases hF
      exact hk
    · rw [if_neg h1] at hF
      refine am_Rr.go 4 (σ' := (14, [some (.ref 27), some (.int v1)], [.int 0, .int v1, .ref 37], x)) rfl ?_
      by_cases c2 : 0 ≤ v1.toInt ∧ v1.toInt < 36
      · rw [if_pos c2] at hF
        refine am_Rr.chk (σ' := (15, [some (.ref 27), some (.int v1)], [], (am_sA x 37 (upd (x.2.2.1 37) v1.toNatClampNeg 0)))) rfl (by exact vp_in_iff.mpr c2) ?_
        refine am_Rr.go 2 (σ' := (2, [some (.ref 27), some (.int (v1 + 1))], [], (am_sA x 37 (upd (x.2.2.1 37) v1.toNatClampNeg 0)))) rfl ?_
        exact ih _ _ hF hk
      · rw [if_neg c2] at hF
        cases hF
noncomputable def G_X8_holdNone  (x : am_X) : Option (Unit × am_X) := (match L_X8_holdNone_2 1000 (0 : Int32) x with | none => none | some (v4, x3) => some ((), x3))
theorem A_X8_holdNone (d : Nat)  {x : am_X} {res : Unit × am_X} (hF : G_X8_holdNone  x = some res) : am_T (d + 2) mX8_holdNone [.ref 27] x (fun ro y => ro = none ∧ res.2 = y) := by
  refine am_T.of rfl ?_
  show am_Rr (d + 1) kX8_holdNone (0, [some (.ref 27), none], [], x) _
  unfold G_X8_holdNone at hF
  refine am_Rr.go 2 (σ' := (2, [some (.ref 27), some (.int 0)], [], x)) rfl ?_
  cases g5 : L_X8_holdNone_2 1000 (0 : Int32) x with
  | none => rw [g5] at hF; cases hF
  | some q_ =>
    obtain ⟨v4, x3⟩ := q_
    rw [g5] at hF
    dsimp only at hF
    refine L_X8_holdNone_2_ok d _ v4 x3 _ _ _ g5 ?_
    obtain rfl := Option.some.inj hF
    exact am_Rr.ret (v := none) (x := x3) rfl (by trivial) ⟨rfl, rfl⟩
noncomputable def G_X8_apart (a : Int32) (b : Int32) (x : am_X) : Option (Int32 × am_X) := some (((if 0 ≤ ((a / 6) - (b / 6)) then ((a / 6) - (b / 6)) else 0 - ((a / 6) - (b / 6))) + (if 0 ≤ ((a - a / 6 * 6) - (b - b / 6 * 6)) then ((a - a / 6 * 6) - (b - b / 6 * 6)) else 0 - ((a - a / 6 * 6) - (b - b / 6 * 6)))), x)
theorem A_X8_apart (d : Nat) {a : Int32} {b : Int32} {x : am_X} {res : Int32 × am_X} (hF : G_X8_apart a b x = some res) : am_T (d + 2) mX8_apart [.ref 27, .int a, .int b] x (fun ro y => ro = some (.int res.1) ∧ res.2 = y) := by
  refine am_T.of rfl ?_
  show am_Rr (d + 1) kX8_apart (0, [some (.ref 27), some (.int a), some (.int b)], [], x) _
  unfold G_X8_apart at hF
  refine am_Rr.go 2 (σ' := (3, [some (.ref 27), some (.int a), some (.int b)], [.int 6, .int a], x)) rfl ?_
  refine am_Rr.chk (σ' := (4, [some (.ref 27), some (.int a), some (.int b)], [.int (a / 6)], x)) rfl (by decide) ?_
  refine am_Rr.go 2 (σ' := (7, [some (.ref 27), some (.int a), some (.int b)], [.int 6, .int b, .int (a / 6)], x)) rfl ?_
  refine am_Rr.chk (σ' := (8, [some (.ref 27), some (.int a), some (.int b)], [.int (b / 6), .int (a / 6)], x)) rfl (by decide) ?_
  refine am_Rr.go 4 (σ' := (15, [some (.ref 27), some (.int a), some (.int b)], [.int 6, .int a, .int (if 0 ≤ ((a / 6) - (b / 6)) then ((a / 6) - (b / 6)) else 0 - ((a / 6) - (b / 6)))], x)) rfl ?_
  refine am_Rr.chk (σ' := (16, [some (.ref 27), some (.int a), some (.int b)], [.int (a - a / 6 * 6), .int (if 0 ≤ ((a / 6) - (b / 6)) then ((a / 6) - (b / 6)) else 0 - ((a / 6) - (b / 6)))], x)) rfl (by decide) ?_
  refine am_Rr.go 2 (σ' := (19, [some (.ref 27), some (.int a), some (.int b)], [.int 6, .int b, .int (a - a / 6 * 6), .int (if 0 ≤ ((a / 6) - (b / 6)) then ((a / 6) - (b / 6)) else 0 - ((a / 6) - (b / 6)))], x)) rfl ?_
  refine am_Rr.chk (σ' := (20, [some (.ref 27), some (.int a), some (.int b)], [.int (b - b / 6 * 6), .int (a - a / 6 * 6), .int (if 0 ≤ ((a / 6) - (b / 6)) then ((a / 6) - (b / 6)) else 0 - ((a / 6) - (b / 6)))], x)) rfl (by decide) ?_
  refine am_Rr.go 3 (σ' := (25, [some (.ref 27), some (.int a), some (.int b)], [.int ((if 0 ≤ ((a / 6) - (b / 6)) then ((a / 6) - (b / 6)) else 0 - ((a / 6) - (b / 6))) + (if 0 ≤ ((a - a / 6 * 6) - (b - b / 6 * 6)) then ((a - a / 6 * 6) - (b - b / 6 * 6)) else 0 - ((a - a / 6 * 6) - (b - b / 6 * 6))))], x)) rfl ?_
  obtain rfl := Option.some.inj hF
  exact am_Rr.ret (v := some (.int ((if 0 ≤ ((a / 6) - (b / 6)) then ((a / 6) - (b / 6)) else 0 - ((a / 6) - (b / 6))) + (if 0 ≤ ((a - a / 6 * 6) - (b - b / 6 * 6)) then ((a - a / 6 * 6) - (b - b / 6 * 6)) else 0 - ((a - a / 6 * 6) - (b - b / 6 * 6)))))) (x := x) rfl (by trivial) ⟨rfl, rfl⟩
noncomputable def G_X8_kindOfSeeker (a : Int32) (x : am_X) : Option (Int32 × am_X) := (if 0 ≤ ((10 : Int32) + ((2 : Int32) * a)).toInt ∧ ((10 : Int32) + ((2 : Int32) * a)).toInt < 56 then some (((x.2.2.1 29) ((10 : Int32) + ((2 : Int32) * a)).toNatClampNeg), x) else none)
theorem A_X8_kindOfSeeker (d : Nat) {a : Int32} {x : am_X} {res : Int32 × am_X} (hF : G_X8_kindOfSeeker a x = some res) : am_T (d + 2) mX8_kindOfSeeker [.ref 27, .int a] x (fun ro y => ro = some (.int res.1) ∧ res.2 = y) := by
  refine am_T.of rfl ?_
  show am_Rr (d + 1) kX8_kindOfSeeker (0, [some (.ref 27), some (.int a)], [], x) _
  unfold G_X8_kindOfSeeker at hF
  refine am_Rr.go 7 (σ' := (10, [some (.ref 27), some (.int a)], [.int ((10 : Int32) + ((2 : Int32) * a)), .ref 29], x)) rfl ?_
  by_cases c1 : 0 ≤ ((10 : Int32) + ((2 : Int32) * a)).toInt ∧ ((10 : Int32) + ((2 : Int32) * a)).toInt < 56
  · rw [if_pos c1] at hF
    refine am_Rr.chk (σ' := (11, [some (.ref 27), some (.int a)], [.int ((x.2.2.1 29) ((10 : Int32) + ((2 : Int32) * a)).toNatClampNeg)], x)) rfl (by exact vp_in_iff.mpr c1) ?_
    obtain rfl := Option.some.inj hF
    exact am_Rr.ret (v := some (.int ((x.2.2.1 29) ((10 : Int32) + ((2 : Int32) * a)).toNatClampNeg))) (x := x) rfl (by trivial) ⟨rfl, rfl⟩
  · rw [if_neg c1] at hF
    cases hF
noncomputable def G_X8_noLong (a : Int32) (x : am_X) : Option (Int64 × am_X) := (match G_X8_no a x with | none => none | some (r1, x2) => some (((4000000000000000000 : Int64) - r1.toInt64), x2))
theorem A_X8_noLong (d : Nat) {a : Int32} {x : am_X} {res : Int64 × am_X} (hF : G_X8_noLong a x = some res) : am_T (d + 3) mX8_noLong [.ref 27, .int a] x (fun ro y => ro = some (.long res.1) ∧ res.2 = y) := by
  refine am_T.of rfl ?_
  show am_Rr (d + 2) kX8_noLong (0, [some (.ref 27), some (.int a)], [], x) _
  unfold G_X8_noLong at hF
  refine am_Rr.go 3 (σ' := (5, [some (.ref 27), some (.int a)], [.int a, .ref 27, .long 4000000000000000000], x)) rfl ?_
  cases g3 : G_X8_no a x with
  | none => rw [g3] at hF; cases hF
  | some q_ =>
    obtain ⟨r1, x2⟩ := q_
    rw [g3] at hF
    dsimp only at hF
    refine am_Rr.call (pc := 8) (ls := [some (.ref 27), some (.int a)]) (st := [.long 4000000000000000000]) rfl (A_X8_no d g3) ?_
    rintro _ _ ⟨rfl, rfl⟩
    show am_Rr _ _ (8, [some (.ref 27), some (.int a)], [.int r1, .long 4000000000000000000], x2) _
    refine am_Rr.go 2 (σ' := (10, [some (.ref 27), some (.int a)], [.long ((4000000000000000000 : Int64) - r1.toInt64)], x2)) rfl ?_
    obtain rfl := Option.some.inj hF
    exact am_Rr.ret (v := some (.long ((4000000000000000000 : Int64) - r1.toInt64))) (x := x2) rfl (by trivial) ⟨rfl, rfl⟩
noncomputable def G_X8_image  (x : am_X) : Option (Int32 × am_X) := (match G_X8_move_29_30  (am_uI x 867 1) with | none => none | some (_, x3) => some (((x3.2.2.1 29) 0), x3))
theorem A_X8_image (d : Nat)  {x : am_X} {res : Int32 × am_X} (hF : G_X8_image  x = some res) : am_T (d + 3) mX8_image [.ref 27] x (fun ro y => ro = some (.int res.1) ∧ res.2 = y) := by
  refine am_T.of rfl ?_
  show am_Rr (d + 2) kX8_image (0, [some (.ref 27)], [], x) _
  unfold G_X8_image at hF
  refine am_Rr.go 2 (σ' := (2, [some (.ref 27)], [.int 1, .ref 27], x)) rfl ?_
  refine am_Rr.chk (σ' := (5, [some (.ref 27)], [], (am_uI x 867 1))) rfl (by first | exact Or.inl rfl | exact Or.inr rfl) ?_
  refine am_Rr.go 4 (σ' := (13, [some (.ref 27)], [.ref 30, .ref 29], (am_uI x 867 1))) rfl ?_
  cases g4 : G_X8_move_29_30  (am_uI x 867 1) with
  | none => rw [g4] at hF; cases hF
  | some q_ =>
    obtain ⟨u_, x3⟩ := q_
    rw [g4] at hF
    dsimp only at hF
    refine am_Rr.call (pc := 16) (ls := [some (.ref 27)]) (st := []) rfl (A_X8_move_29_30 d g4) ?_
    rintro _ _ ⟨rfl, rfl⟩
    show am_Rr _ _ (16, [some (.ref 27)], [], x3) _
    refine am_Rr.go 3 (σ' := (21, [some (.ref 27)], [.int 0, .ref 29], x3)) rfl ?_
    refine am_Rr.chk (σ' := (22, [some (.ref 27)], [.int ((x3.2.2.1 29) 0)], x3)) rfl (by unfold vp_in; decide) ?_
    obtain rfl := Option.some.inj hF
    exact am_Rr.ret (v := some (.int ((x3.2.2.1 29) 0))) (x := x3) rfl (by trivial) ⟨rfl, rfl⟩
noncomputable def G_X8_on  (x : am_X) : Option (Int32 × am_X) := (if (x.1 867) = 0 then (match G_X8_no (-3 : Int32) x with | none => none | some (r2, x3) => some (r2, x3)) else (match G_X8_move_30_29  x with | none => none | some (_, x6) => some (((x6.2.2.1 29) 0), x6)))
theorem A_X8_on (d : Nat)  {x : am_X} {res : Int32 × am_X} (hF : G_X8_on  x = some res) : am_T (d + 3) mX8_on [.ref 27] x (fun ro y => ro = some (.int res.1) ∧ res.2 = y) := by
  refine am_T.of rfl ?_
  show am_Rr (d + 2) kX8_on (0, [some (.ref 27)], [], x) _
  unfold G_X8_on at hF
  refine am_Rr.go 3 (σ' := (if (x.1 867) = 0 then 7 else 14, [some (.ref 27)], [], x)) rfl ?_
  refine am_Rr.ite (fun h1 => ?_) (fun h1 => ?_)
  · rw [if_pos h1] at hF
    refine am_Rr.go 2 (σ' := (10, [some (.ref 27)], [.int (-3), .ref 27], x)) rfl ?_
    cases g4 : G_X8_no (-3 : Int32) x with
    | none => rw [g4] at hF; cases hF
    | some q_ =>
      obtain ⟨r2, x3⟩ := q_
      rw [g4] at hF
      dsimp only at hF
      refine am_Rr.call (pc := 13) (ls := [some (.ref 27)]) (st := []) rfl (A_X8_no d g4) ?_
      rintro _ _ ⟨rfl, rfl⟩
      show am_Rr _ _ (13, [some (.ref 27)], [.int r2], x3) _
      obtain rfl := Option.some.inj hF
      exact am_Rr.ret (v := some (.int r2)) (x := x3) rfl (by trivial) ⟨rfl, rfl⟩
  · rw [if_neg h1] at hF
    refine am_Rr.go 4 (σ' := (22, [some (.ref 27)], [.ref 29, .ref 30], x)) rfl ?_
    cases g7 : G_X8_move_30_29  x with
    | none => rw [g7] at hF; cases hF
    | some q_ =>
      obtain ⟨u_, x6⟩ := q_
      rw [g7] at hF
      dsimp only at hF
      refine am_Rr.call (pc := 25) (ls := [some (.ref 27)]) (st := []) rfl (A_X8_move_30_29 d g7) ?_
      rintro _ _ ⟨rfl, rfl⟩
      show am_Rr _ _ (25, [some (.ref 27)], [], x6) _
      refine am_Rr.go 3 (σ' := (30, [some (.ref 27)], [.int 0, .ref 29], x6)) rfl ?_
      refine am_Rr.chk (σ' := (31, [some (.ref 27)], [.int ((x6.2.2.1 29) 0)], x6)) rfl (by unfold vp_in; decide) ?_
      obtain rfl := Option.some.inj hF
      exact am_Rr.ret (v := some (.int ((x6.2.2.1 29) 0))) (x := x6) rfl (by trivial) ⟨rfl, rfl⟩
noncomputable def G_X8_letter (a : Int32) (x : am_X) : Option (Int32 × am_X) := (if (0 : Int32) ≤ a then (if (255 : Int32) < a then (match G_X8_no (-6 : Int32) x with | none => none | some (r3, x4) => some (r3, x4)) else (if (x.1 869) = 96 then (match G_X8_no (-6 : Int32) x with | none => none | some (r7, x8) => some (r7, x8)) else (if 0 ≤ (x.1 869).toInt ∧ (x.1 869).toInt < 96 then some (((x.1 869) + 1), (am_uI (am_sA x 31 (upd (x.2.2.1 31) ((x.1 869).toNatClampNeg) a)) 869 ((x.1 869) + 1))) else none))) else (match G_X8_no (-4 : Int32) x with | none => none | some (r11, x12) => some (r11, x12)))
theorem A_X8_letter (d : Nat) {a : Int32} {x : am_X} {res : Int32 × am_X} (hF : G_X8_letter a x = some res) : am_T (d + 3) mX8_letter [.ref 27, .int a] x (fun ro y => ro = some (.int res.1) ∧ res.2 = y) := by
  refine am_T.of rfl ?_
  show am_Rr (d + 2) kX8_letter (0, [some (.ref 27), some (.int a)], [], x) _
  unfold G_X8_letter at hF
  refine am_Rr.go 2 (σ' := (if (0 : Int32) ≤ a then 11 else 4, [some (.ref 27), some (.int a)], [], x)) rfl ?_
  refine am_Rr.ite (fun h1 => ?_) (fun h1 => ?_)
  · rw [if_pos h1] at hF
    refine am_Rr.go 3 (σ' := (if (255 : Int32) < a then 27 else 18, [some (.ref 27), some (.int a)], [], x)) rfl ?_
    refine am_Rr.ite (fun h2 => ?_) (fun h2 => ?_)
    · rw [if_pos h2] at hF
      refine am_Rr.go 2 (σ' := (30, [some (.ref 27), some (.int a)], [.int (-6), .ref 27], x)) rfl ?_
      cases g5 : G_X8_no (-6 : Int32) x with
      | none => rw [g5] at hF; cases hF
      | some q_ =>
        obtain ⟨r3, x4⟩ := q_
        rw [g5] at hF
        dsimp only at hF
        refine am_Rr.call (pc := 33) (ls := [some (.ref 27), some (.int a)]) (st := []) rfl (A_X8_no d g5) ?_
        rintro _ _ ⟨rfl, rfl⟩
        show am_Rr _ _ (33, [some (.ref 27), some (.int a)], [.int r3], x4) _
        obtain rfl := Option.some.inj hF
        exact am_Rr.ret (v := some (.int r3)) (x := x4) rfl (by trivial) ⟨rfl, rfl⟩
    · rw [if_neg h2] at hF
      refine am_Rr.go 4 (σ' := (if (x.1 869) = 96 then 27 else 34, [some (.ref 27), some (.int a)], [], x)) rfl ?_
      refine am_Rr.ite (fun h6 => ?_) (fun h6 => ?_)
      · rw [if_pos h6] at hF
        refine am_Rr.go 2 (σ' := (30, [some (.ref 27), some (.int a)], [.int (-6), .ref 27], x)) rfl ?_
        cases g9 : G_X8_no (-6 : Int32) x with
        | none => rw [g9] at hF; cases hF
        | some q_ =>
          obtain ⟨r7, x8⟩ := q_
          rw [g9] at hF
          dsimp only at hF
          refine am_Rr.call (pc := 33) (ls := [some (.ref 27), some (.int a)]) (st := []) rfl (A_X8_no d g9) ?_
          rintro _ _ ⟨rfl, rfl⟩
          show am_Rr _ _ (33, [some (.ref 27), some (.int a)], [.int r7], x8) _
          obtain rfl := Option.some.inj hF
          exact am_Rr.ret (v := some (.int r7)) (x := x8) rfl (by trivial) ⟨rfl, rfl⟩
      · rw [if_neg h6] at hF
        refine am_Rr.go 5 (σ' := (43, [some (.ref 27), some (.int a)], [.int a, .int (x.1 869), .ref 31], x)) rfl ?_
        by_cases c10 : 0 ≤ (x.1 869).toInt ∧ (x.1 869).toInt < 96
        · rw [if_pos c10] at hF
          refine am_Rr.chk (σ' := (44, [some (.ref 27), some (.int a)], [], (am_sA x 31 (upd (x.2.2.1 31) ((x.1 869).toNatClampNeg) a)))) rfl (by exact vp_in_iff.mpr c10) ?_
          refine am_Rr.go 8 (σ' := (58, [some (.ref 27), some (.int a)], [.int ((x.1 869) + 1)], (am_uI (am_sA x 31 (upd (x.2.2.1 31) ((x.1 869).toNatClampNeg) a)) 869 ((x.1 869) + 1)))) rfl ?_
          obtain rfl := Option.some.inj hF
          exact am_Rr.ret (v := some (.int ((x.1 869) + 1))) (x := (am_uI (am_sA x 31 (upd (x.2.2.1 31) ((x.1 869).toNatClampNeg) a)) 869 ((x.1 869) + 1))) rfl (by trivial) ⟨rfl, rfl⟩
        · rw [if_neg c10] at hF
          cases hF
  · rw [if_neg h1] at hF
    refine am_Rr.go 2 (σ' := (7, [some (.ref 27), some (.int a)], [.int (-4), .ref 27], x)) rfl ?_
    cases g13 : G_X8_no (-4 : Int32) x with
    | none => rw [g13] at hF; cases hF
    | some q_ =>
      obtain ⟨r11, x12⟩ := q_
      rw [g13] at hF
      dsimp only at hF
      refine am_Rr.call (pc := 10) (ls := [some (.ref 27), some (.int a)]) (st := []) rfl (A_X8_no d g13) ?_
      rintro _ _ ⟨rfl, rfl⟩
      show am_Rr _ _ (10, [some (.ref 27), some (.int a)], [.int r11], x12) _
      obtain rfl := Option.some.inj hF
      exact am_Rr.ret (v := some (.int r11)) (x := x12) rfl (by trivial) ⟨rfl, rfl⟩
noncomputable def G_X8_statement  (x : am_X) : Option (Unit × am_X) := (match G_X8_oneOf_32  x with | none => none | some (r1, x2) => (if (2 : Int32) ≤ r1 then (if r1 = 5 then (match G_X8_oneOf_34  (am_uI x2 875 r1) with | none => none | some (r6, x7) => (match G_X8_figures (2 : Int32) (am_sA x7 35 (upd (x7.2.2.1 35) 0 r6)) with | none => none | some (r9, x10) => (if (x10.1 871) = 0 then some ((), (am_uI (am_sA x10 35 (upd (x10.2.2.1 35) 1 r9)) 871 0)) else (if (x10.1 869) ≤ (x10.1 870) then some ((), (am_uI (am_sA x10 35 (upd (x10.2.2.1 35) 1 r9)) 871 0)) else (if 0 ≤ (x10.1 870).toInt ∧ (x10.1 870).toInt < 96 then (if ((x10.2.2.1 31) (x10.1 870).toNatClampNeg) = 59 then some ((), (am_uI (am_sA x10 35 (upd (x10.2.2.1 35) 1 r9)) 870 ((x10.1 870) + 1))) else some ((), (am_uI (am_sA x10 35 (upd (x10.2.2.1 35) 1 r9)) 871 0))) else none))))) else (if r1 = 2 then (match G_X8_figures (2 : Int32) (am_uI x2 875 r1) with | none => none | some (r20, x21) => (if (x21.1 871) = 0 then some ((), (am_uI (am_sA x21 35 (upd (x21.2.2.1 35) 0 r20)) 871 0)) else (if (x21.1 869) ≤ (x21.1 870) then some ((), (am_uI (am_sA x21 35 (upd (x21.2.2.1 35) 0 r20)) 871 0)) else (if 0 ≤ (x21.1 870).toInt ∧ (x21.1 870).toInt < 96 then (if ((x21.2.2.1 31) (x21.1 870).toNatClampNeg) = 59 then some ((), (am_uI (am_sA x21 35 (upd (x21.2.2.1 35) 0 r20)) 870 ((x21.1 870) + 1))) else some ((), (am_uI (am_sA x21 35 (upd (x21.2.2.1 35) 0 r20)) 871 0))) else none)))) else (match G_X8_figures (1 : Int32) (am_uI x2 875 r1) with | none => none | some (r30, x31) => (if (x31.1 871) = 0 then some ((), (am_uI (am_sA x31 35 (upd (x31.2.2.1 35) 0 r30)) 871 0)) else (if (x31.1 869) ≤ (x31.1 870) then some ((), (am_uI (am_sA x31 35 (upd (x31.2.2.1 35) 0 r30)) 871 0)) else (if 0 ≤ (x31.1 870).toInt ∧ (x31.1 870).toInt < 96 then (if ((x31.2.2.1 31) (x31.1 870).toNatClampNeg) = 59 then some ((), (am_uI (am_sA x31 35 (upd (x31.2.2.1 35) 0 r30)) 870 ((x31.1 870) + 1))) else some ((), (am_uI (am_sA x31 35 (upd (x31.2.2.1 35) 0 r30)) 871 0))) else none)))))) else (match G_X8_oneOf_33  (am_uI x2 875 r1) with | none => none | some (r40, x41) => (match G_X8_figures (2 : Int32) (am_sA x41 35 (upd (x41.2.2.1 35) 0 r40)) with | none => none | some (r43, x44) => (if (x44.1 875) = 0 then (if (x44.1 871) = 0 then some ((), (am_uI (am_sA (am_sA x44 35 (upd (x44.2.2.1 35) 1 r43)) 35 (upd (upd (x44.2.2.1 35) 1 r43) 2 r43)) 871 0)) else (if (x44.1 869) ≤ (x44.1 870) then some ((), (am_uI (am_sA (am_sA x44 35 (upd (x44.2.2.1 35) 1 r43)) 35 (upd (upd (x44.2.2.1 35) 1 r43) 2 r43)) 871 0)) else (if 0 ≤ (x44.1 870).toInt ∧ (x44.1 870).toInt < 96 then (if ((x44.2.2.1 31) (x44.1 870).toNatClampNeg) = 59 then some ((), (am_uI (am_sA (am_sA x44 35 (upd (x44.2.2.1 35) 1 r43)) 35 (upd (upd (x44.2.2.1 35) 1 r43) 2 r43)) 870 ((x44.1 870) + 1))) else some ((), (am_uI (am_sA (am_sA x44 35 (upd (x44.2.2.1 35) 1 r43)) 35 (upd (upd (x44.2.2.1 35) 1 r43) 2 r43)) 871 0))) else none))) else (match G_X8_figures (2 : Int32) (am_sA x44 35 (upd (x44.2.2.1 35) 1 r43)) with | none => none | some (r54, x55) => (if (x55.1 871) = 0 then some ((), (am_uI (am_sA x55 35 (upd (x55.2.2.1 35) 2 r54)) 871 0)) else (if (x55.1 869) ≤ (x55.1 870) then some ((), (am_uI (am_sA x55 35 (upd (x55.2.2.1 35) 2 r54)) 871 0)) else (if 0 ≤ (x55.1 870).toInt ∧ (x55.1 870).toInt < 96 then (if ((x55.2.2.1 31) (x55.1 870).toNatClampNeg) = 59 then some ((), (am_uI (am_sA x55 35 (upd (x55.2.2.1 35) 2 r54)) 870 ((x55.1 870) + 1))) else some ((), (am_uI (am_sA x55 35 (upd (x55.2.2.1 35) 2 r54)) 871 0))) else none)))))))))
theorem A_X8_statement (d : Nat)  {x : am_X} {res : Unit × am_X} (hF : G_X8_statement  x = some res) : am_T (d + 3) mX8_statement [.ref 27] x (fun ro y => ro = none ∧ res.2 = y) := by
  refine am_T.of rfl ?_
  show am_Rr (d + 2) kX8_statement (0, [some (.ref 27)], [], x) _
  unfold G_X8_statement at hF
  refine am_Rr.go 4 (σ' := (6, [some (.ref 27)], [.ref 32, .ref 27, .ref 27], x)) rfl ?_
  cases g3 : G_X8_oneOf_32  x with
  | none => rw [g3] at hF; cases hF
  | some q_ =>
    obtain ⟨r1, x2⟩ := q_
    rw [g3] at hF
    dsimp only at hF
    refine am_Rr.call (pc := 9) (ls := [some (.ref 27)]) (st := [.ref 27]) rfl (A_X8_oneOf_32 d g3) ?_
    rintro _ _ ⟨rfl, rfl⟩
    show am_Rr _ _ (9, [some (.ref 27)], [.int r1, .ref 27], x2) _
    refine am_Rr.go 5 (σ' := (if (2 : Int32) ≤ r1 then 75 else 20, [some (.ref 27)], [], (am_uI x2 875 r1))) rfl ?_
    refine am_Rr.ite (fun h4 => ?_) (fun h4 => ?_)
    · rw [if_pos h4] at hF
      refine am_Rr.go 4 (σ' := (if r1 = 5 then 83 else 111, [some (.ref 27)], [], (am_uI x2 875 r1))) rfl ?_
      refine am_Rr.ite (fun h5 => ?_) (fun h5 => ?_)
      · rw [if_pos h5] at hF
        refine am_Rr.go 6 (σ' := (93, [some (.ref 27)], [.ref 34, .ref 27, .int 0, .ref 35], (am_uI x2 875 r1))) rfl ?_
        cases g8 : G_X8_oneOf_34  (am_uI x2 875 r1) with
        | none => rw [g8] at hF; cases hF
        | some q_ =>
          obtain ⟨r6, x7⟩ := q_
          rw [g8] at hF
          dsimp only at hF
          refine am_Rr.call (pc := 96) (ls := [some (.ref 27)]) (st := [.int 0, .ref 35]) rfl (A_X8_oneOf_34 d g8) ?_
          rintro _ _ ⟨rfl, rfl⟩
          show am_Rr _ _ (96, [some (.ref 27)], [.int r6, .int 0, .ref 35], x7) _
          refine am_Rr.chk (σ' := (97, [some (.ref 27)], [], (am_sA x7 35 (upd (x7.2.2.1 35) 0 r6)))) rfl (by unfold vp_in; decide) ?_
          refine am_Rr.go 5 (σ' := (104, [some (.ref 27)], [.int 2, .ref 27, .int 1, .ref 35], (am_sA x7 35 (upd (x7.2.2.1 35) 0 r6)))) rfl ?_
          cases g11 : G_X8_figures (2 : Int32) (am_sA x7 35 (upd (x7.2.2.1 35) 0 r6)) with
          | none => rw [g11] at hF; cases hF
          | some q_ =>
            obtain ⟨r9, x10⟩ := q_
            rw [g11] at hF
            dsimp only at hF
            refine am_Rr.call (pc := 107) (ls := [some (.ref 27)]) (st := [.int 1, .ref 35]) rfl (A_X8_figures d g11) ?_
            rintro _ _ ⟨rfl, rfl⟩
            show am_Rr _ _ (107, [some (.ref 27)], [.int r9, .int 1, .ref 35], x10) _
            refine am_Rr.chk (σ' := (108, [some (.ref 27)], [], (am_sA x10 35 (upd (x10.2.2.1 35) 1 r9)))) rfl (by unfold vp_in; decide) ?_
            refine am_Rr.go 4 (σ' := (if (x10.1 871) = 0 then 179 else 141, [some (.ref 27)], [], (am_sA x10 35 (upd (x10.2.2.1 35) 1 r9)))) rfl ?_
            refine am_Rr.ite (fun h12 => ?_) (fun h12 => ?_)
            · rw [if_pos h12] at hF
              refine am_Rr.go 2 (σ' := (181, [some (.ref 27)], [.int 0, .ref 27], (am_sA x10 35 (upd (x10.2.2.1 35) 1 r9)))) rfl ?_
              refine am_Rr.chk (σ' := (184, [some (.ref 27)], [], (am_uI (am_sA x10 35 (upd (x10.2.2.1 35) 1 r9)) 871 0))) rfl (by first | exact Or.inl rfl | exact Or.inr rfl) ?_
              obtain rfl := Option.some.inj hF
              exact am_Rr.ret (v := none) (x := (am_uI (am_sA x10 35 (upd (x10.2.2.1 35) 1 r9)) 871 0)) rfl (by trivial) ⟨rfl, rfl⟩
            · rw [if_neg h12] at hF
              refine am_Rr.go 5 (σ' := (if (x10.1 869) ≤ (x10.1 870) then 179 else 152, [some (.ref 27)], [], (am_sA x10 35 (upd (x10.2.2.1 35) 1 r9)))) rfl ?_
              refine am_Rr.ite (fun h14 => ?_) (fun h14 => ?_)
              · rw [if_pos h14] at hF
                refine am_Rr.go 2 (σ' := (181, [some (.ref 27)], [.int 0, .ref 27], (am_sA x10 35 (upd (x10.2.2.1 35) 1 r9)))) rfl ?_
                refine am_Rr.chk (σ' := (184, [some (.ref 27)], [], (am_uI (am_sA x10 35 (upd (x10.2.2.1 35) 1 r9)) 871 0))) rfl (by first | exact Or.inl rfl | exact Or.inr rfl) ?_
                obtain rfl := Option.some.inj hF
                exact am_Rr.ret (v := none) (x := (am_uI (am_sA x10 35 (upd (x10.2.2.1 35) 1 r9)) 871 0)) rfl (by trivial) ⟨rfl, rfl⟩
              · rw [if_neg h14] at hF
                refine am_Rr.go 4 (σ' := (160, [some (.ref 27)], [.int (x10.1 870), .ref 31], (am_sA x10 35 (upd (x10.2.2.1 35) 1 r9)))) rfl ?_
                by_cases c16 : 0 ≤ (x10.1 870).toInt ∧ (x10.1 870).toInt < 96
                · rw [if_pos c16] at hF
                  refine am_Rr.chk (σ' := (161, [some (.ref 27)], [.int ((x10.2.2.1 31) (x10.1 870).toNatClampNeg)], (am_sA x10 35 (upd (x10.2.2.1 35) 1 r9)))) rfl (by exact vp_in_iff.mpr c16) ?_
                  refine am_Rr.go 2 (σ' := (if ((x10.2.2.1 31) (x10.1 870).toNatClampNeg) = 59 then 166 else 179, [some (.ref 27)], [], (am_sA x10 35 (upd (x10.2.2.1 35) 1 r9)))) rfl ?_
                  refine am_Rr.ite (fun h17 => ?_) (fun h17 => ?_)
                  · rw [if_pos h17] at hF
                    refine am_Rr.go 7 (σ' := (184, [some (.ref 27)], [], (am_uI (am_sA x10 35 (upd (x10.2.2.1 35) 1 r9)) 870 ((x10.1 870) + 1)))) rfl ?_
                    obtain rfl := Option.some.inj hF
                    exact am_Rr.ret (v := none) (x := (am_uI (am_sA x10 35 (upd (x10.2.2.1 35) 1 r9)) 870 ((x10.1 870) + 1))) rfl (by trivial) ⟨rfl, rfl⟩
                  · rw [if_neg h17] at hF
                    refine am_Rr.go 2 (σ' := (181, [some (.ref 27)], [.int 0, .ref 27], (am_sA x10 35 (upd (x10.2.2.1 35) 1 r9)))) rfl ?_
                    refine am_Rr.chk (σ' := (184, [some (.ref 27)], [], (am_uI (am_sA x10 35 (upd (x10.2.2.1 35) 1 r9)) 871 0))) rfl (by first | exact Or.inl rfl | exact Or.inr rfl) ?_
                    obtain rfl := Option.some.inj hF
                    exact am_Rr.ret (v := none) (x := (am_uI (am_sA x10 35 (upd (x10.2.2.1 35) 1 r9)) 871 0)) rfl (by trivial) ⟨rfl, rfl⟩
                · rw [if_neg c16] at hF
                  cases hF
      · rw [if_neg h5] at hF
        refine am_Rr.go 8 (σ' := (if r1 = 2 then 125 else 129, [some (.ref 27)], [.ref 27, .int 0, .ref 35], (am_uI x2 875 r1))) rfl ?_
        refine am_Rr.ite (fun h19 => ?_) (fun h19 => ?_)
        · rw [if_pos h19] at hF
          refine am_Rr.go 2 (σ' := (130, [some (.ref 27)], [.int 2, .ref 27, .int 0, .ref 35], (am_uI x2 875 r1))) rfl ?_
          cases g22 : G_X8_figures (2 : Int32) (am_uI x2 875 r1) with
          | none => rw [g22] at hF; cases hF
          | some q_ =>
            obtain ⟨r20, x21⟩ := q_
            rw [g22] at hF
            dsimp only at hF
            refine am_Rr.call (pc := 133) (ls := [some (.ref 27)]) (st := [.int 0, .ref 35]) rfl (A_X8_figures d g22) ?_
            rintro _ _ ⟨rfl, rfl⟩
            show am_Rr _ _ (133, [some (.ref 27)], [.int r20, .int 0, .ref 35], x21) _
            refine am_Rr.chk (σ' := (134, [some (.ref 27)], [], (am_sA x21 35 (upd (x21.2.2.1 35) 0 r20)))) rfl (by unfold vp_in; decide) ?_
            refine am_Rr.go 3 (σ' := (if (x21.1 871) = 0 then 179 else 141, [some (.ref 27)], [], (am_sA x21 35 (upd (x21.2.2.1 35) 0 r20)))) rfl ?_
            refine am_Rr.ite (fun h23 => ?_) (fun h23 => ?_)
            · rw [if_pos h23] at hF
              refine am_Rr.go 2 (σ' := (181, [some (.ref 27)], [.int 0, .ref 27], (am_sA x21 35 (upd (x21.2.2.1 35) 0 r20)))) rfl ?_
              refine am_Rr.chk (σ' := (184, [some (.ref 27)], [], (am_uI (am_sA x21 35 (upd (x21.2.2.1 35) 0 r20)) 871 0))) rfl (by first | exact Or.inl rfl | exact Or.inr rfl) ?_
              obtain rfl := Option.some.inj hF
              exact am_Rr.ret (v := none) (x := (am_uI (am_sA x21 35 (upd (x21.2.2.1 35) 0 r20)) 871 0)) rfl (by trivial) ⟨rfl, rfl⟩
            · rw [if_neg h23] at hF
              refine am_Rr.go 5 (σ' := (if (x21.1 869) ≤ (x21.1 870) then 179 else 152, [some (.ref 27)], [], (am_sA x21 35 (upd (x21.2.2.1 35) 0 r20)))) rfl ?_
              refine am_Rr.ite (fun h25 => ?_) (fun h25 => ?_)
              · rw [if_pos h25] at hF
                refine am_Rr.go 2 (σ' := (181, [some (.ref 27)], [.int 0, .ref 27], (am_sA x21 35 (upd (x21.2.2.1 35) 0 r20)))) rfl ?_
                refine am_Rr.chk (σ' := (184, [some (.ref 27)], [], (am_uI (am_sA x21 35 (upd (x21.2.2.1 35) 0 r20)) 871 0))) rfl (by first | exact Or.inl rfl | exact Or.inr rfl) ?_
                obtain rfl := Option.some.inj hF
                exact am_Rr.ret (v := none) (x := (am_uI (am_sA x21 35 (upd (x21.2.2.1 35) 0 r20)) 871 0)) rfl (by trivial) ⟨rfl, rfl⟩
              · rw [if_neg h25] at hF
                refine am_Rr.go 4 (σ' := (160, [some (.ref 27)], [.int (x21.1 870), .ref 31], (am_sA x21 35 (upd (x21.2.2.1 35) 0 r20)))) rfl ?_
                by_cases c27 : 0 ≤ (x21.1 870).toInt ∧ (x21.1 870).toInt < 96
                · rw [if_pos c27] at hF
                  refine am_Rr.chk (σ' := (161, [some (.ref 27)], [.int ((x21.2.2.1 31) (x21.1 870).toNatClampNeg)], (am_sA x21 35 (upd (x21.2.2.1 35) 0 r20)))) rfl (by exact vp_in_iff.mpr c27) ?_
                  refine am_Rr.go 2 (σ' := (if ((x21.2.2.1 31) (x21.1 870).toNatClampNeg) = 59 then 166 else 179, [some (.ref 27)], [], (am_sA x21 35 (upd (x21.2.2.1 35) 0 r20)))) rfl ?_
                  refine am_Rr.ite (fun h28 => ?_) (fun h28 => ?_)
                  · rw [if_pos h28] at hF
                    refine am_Rr.go 7 (σ' := (184, [some (.ref 27)], [], (am_uI (am_sA x21 35 (upd (x21.2.2.1 35) 0 r20)) 870 ((x21.1 870) + 1)))) rfl ?_
                    obtain rfl := Option.some.inj hF
                    exact am_Rr.ret (v := none) (x := (am_uI (am_sA x21 35 (upd (x21.2.2.1 35) 0 r20)) 870 ((x21.1 870) + 1))) rfl (by trivial) ⟨rfl, rfl⟩
                  · rw [if_neg h28] at hF
                    refine am_Rr.go 2 (σ' := (181, [some (.ref 27)], [.int 0, .ref 27], (am_sA x21 35 (upd (x21.2.2.1 35) 0 r20)))) rfl ?_
                    refine am_Rr.chk (σ' := (184, [some (.ref 27)], [], (am_uI (am_sA x21 35 (upd (x21.2.2.1 35) 0 r20)) 871 0))) rfl (by first | exact Or.inl rfl | exact Or.inr rfl) ?_
                    obtain rfl := Option.some.inj hF
                    exact am_Rr.ret (v := none) (x := (am_uI (am_sA x21 35 (upd (x21.2.2.1 35) 0 r20)) 871 0)) rfl (by trivial) ⟨rfl, rfl⟩
                · rw [if_neg c27] at hF
                  cases hF
        · rw [if_neg h19] at hF
          refine am_Rr.go 1 (σ' := (130, [some (.ref 27)], [.int 1, .ref 27, .int 0, .ref 35], (am_uI x2 875 r1))) rfl ?_
          cases g32 : G_X8_figures (1 : Int32) (am_uI x2 875 r1) with
          | none => rw [g32] at hF; cases hF
          | some q_ =>
            obtain ⟨r30, x31⟩ := q_
            rw [g32] at hF
            dsimp only at hF
            refine am_Rr.call (pc := 133) (ls := [some (.ref 27)]) (st := [.int 0, .ref 35]) rfl (A_X8_figures d g32) ?_
            rintro _ _ ⟨rfl, rfl⟩
            show am_Rr _ _ (133, [some (.ref 27)], [.int r30, .int 0, .ref 35], x31) _
            refine am_Rr.chk (σ' := (134, [some (.ref 27)], [], (am_sA x31 35 (upd (x31.2.2.1 35) 0 r30)))) rfl (by unfold vp_in; decide) ?_
            refine am_Rr.go 3 (σ' := (if (x31.1 871) = 0 then 179 else 141, [some (.ref 27)], [], (am_sA x31 35 (upd (x31.2.2.1 35) 0 r30)))) rfl ?_
            refine am_Rr.ite (fun h33 => ?_) (fun h33 => ?_)
            · rw [if_pos h33] at hF
              refine am_Rr.go 2 (σ' := (181, [some (.ref 27)], [.int 0, .ref 27], (am_sA x31 35 (upd (x31.2.2.1 35) 0 r30)))) rfl ?_
              refine am_Rr.chk (σ' := (184, [some (.ref 27)], [], (am_uI (am_sA x31 35 (upd (x31.2.2.1 35) 0 r30)) 871 0))) rfl (by first | exact Or.inl rfl | exact Or.inr rfl) ?_
              obtain rfl := Option.some.inj hF
              exact am_Rr.ret (v := none) (x := (am_uI (am_sA x31 35 (upd (x31.2.2.1 35) 0 r30)) 871 0)) rfl (by trivial) ⟨rfl, rfl⟩
            · rw [if_neg h33] at hF
              refine am_Rr.go 5 (σ' := (if (x31.1 869) ≤ (x31.1 870) then 179 else 152, [some (.ref 27)], [], (am_sA x31 35 (upd (x31.2.2.1 35) 0 r30)))) rfl ?_
              refine am_Rr.ite (fun h35 => ?_) (fun h35 => ?_)
              · rw [if_pos h35] at hF
                refine am_Rr.go 2 (σ' := (181, [some (.ref 27)], [.int 0, .ref 27], (am_sA x31 35 (upd (x31.2.2.1 35) 0 r30)))) rfl ?_
                refine am_Rr.chk (σ' := (184, [some (.ref 27)], [], (am_uI (am_sA x31 35 (upd (x31.2.2.1 35) 0 r30)) 871 0))) rfl (by first | exact Or.inl rfl | exact Or.inr rfl) ?_
                obtain rfl := Option.some.inj hF
                exact am_Rr.ret (v := none) (x := (am_uI (am_sA x31 35 (upd (x31.2.2.1 35) 0 r30)) 871 0)) rfl (by trivial) ⟨rfl, rfl⟩
              · rw [if_neg h35] at hF
                refine am_Rr.go 4 (σ' := (160, [some (.ref 27)], [.int (x31.1 870), .ref 31], (am_sA x31 35 (upd (x31.2.2.1 35) 0 r30)))) rfl ?_
                by_cases c37 : 0 ≤ (x31.1 870).toInt ∧ (x31.1 870).toInt < 96
                · rw [if_pos c37] at hF
                  refine am_Rr.chk (σ' := (161, [some (.ref 27)], [.int ((x31.2.2.1 31) (x31.1 870).toNatClampNeg)], (am_sA x31 35 (upd (x31.2.2.1 35) 0 r30)))) rfl (by exact vp_in_iff.mpr c37) ?_
                  refine am_Rr.go 2 (σ' := (if ((x31.2.2.1 31) (x31.1 870).toNatClampNeg) = 59 then 166 else 179, [some (.ref 27)], [], (am_sA x31 35 (upd (x31.2.2.1 35) 0 r30)))) rfl ?_
                  refine am_Rr.ite (fun h38 => ?_) (fun h38 => ?_)
                  · rw [if_pos h38] at hF
                    refine am_Rr.go 7 (σ' := (184, [some (.ref 27)], [], (am_uI (am_sA x31 35 (upd (x31.2.2.1 35) 0 r30)) 870 ((x31.1 870) + 1)))) rfl ?_
                    obtain rfl := Option.some.inj hF
                    exact am_Rr.ret (v := none) (x := (am_uI (am_sA x31 35 (upd (x31.2.2.1 35) 0 r30)) 870 ((x31.1 870) + 1))) rfl (by trivial) ⟨rfl, rfl⟩
                  · rw [if_neg h38] at hF
                    refine am_Rr.go 2 (σ' := (181, [some (.ref 27)], [.int 0, .ref 27], (am_sA x31 35 (upd (x31.2.2.1 35) 0 r30)))) rfl ?_
                    refine am_Rr.chk (σ' := (184, [some (.ref 27)], [], (am_uI (am_sA x31 35 (upd (x31.2.2.1 35) 0 r30)) 871 0))) rfl (by first | exact Or.inl rfl | exact Or.inr rfl) ?_
                    obtain rfl := Option.some.inj hF
                    exact am_Rr.ret (v := none) (x := (am_uI (am_sA x31 35 (upd (x31.2.2.1 35) 0 r30)) 871 0)) rfl (by trivial) ⟨rfl, rfl⟩
                · rw [if_neg c37] at hF
                  cases hF
    · rw [if_neg h4] at hF
      refine am_Rr.go 6 (σ' := (30, [some (.ref 27)], [.ref 33, .ref 27, .int 0, .ref 35], (am_uI x2 875 r1))) rfl ?_
      cases g42 : G_X8_oneOf_33  (am_uI x2 875 r1) with
      | none => rw [g42] at hF; cases hF
      | some q_ =>
        obtain ⟨r40, x41⟩ := q_
        rw [g42] at hF
        dsimp only at hF
        refine am_Rr.call (pc := 33) (ls := [some (.ref 27)]) (st := [.int 0, .ref 35]) rfl (A_X8_oneOf_33 d g42) ?_
        rintro _ _ ⟨rfl, rfl⟩
        show am_Rr _ _ (33, [some (.ref 27)], [.int r40, .int 0, .ref 35], x41) _
        refine am_Rr.chk (σ' := (34, [some (.ref 27)], [], (am_sA x41 35 (upd (x41.2.2.1 35) 0 r40)))) rfl (by unfold vp_in; decide) ?_
        refine am_Rr.go 5 (σ' := (41, [some (.ref 27)], [.int 2, .ref 27, .int 1, .ref 35], (am_sA x41 35 (upd (x41.2.2.1 35) 0 r40)))) rfl ?_
        cases g45 : G_X8_figures (2 : Int32) (am_sA x41 35 (upd (x41.2.2.1 35) 0 r40)) with
        | none => rw [g45] at hF; cases hF
        | some q_ =>
          obtain ⟨r43, x44⟩ := q_
          rw [g45] at hF
          dsimp only at hF
          refine am_Rr.call (pc := 44) (ls := [some (.ref 27)]) (st := [.int 1, .ref 35]) rfl (A_X8_figures d g45) ?_
          rintro _ _ ⟨rfl, rfl⟩
          show am_Rr _ _ (44, [some (.ref 27)], [.int r43, .int 1, .ref 35], x44) _
          refine am_Rr.chk (σ' := (45, [some (.ref 27)], [], (am_sA x44 35 (upd (x44.2.2.1 35) 1 r43)))) rfl (by unfold vp_in; decide) ?_
          refine am_Rr.go 6 (σ' := (if (x44.1 875) = 0 then 57 else 66, [some (.ref 27)], [.int 2, .ref 35], (am_sA x44 35 (upd (x44.2.2.1 35) 1 r43)))) rfl ?_
          refine am_Rr.ite (fun h46 => ?_) (fun h46 => ?_)
          · rw [if_pos h46] at hF
            refine am_Rr.go 3 (σ' := (62, [some (.ref 27)], [.int 1, .ref 35, .int 2, .ref 35], (am_sA x44 35 (upd (x44.2.2.1 35) 1 r43)))) rfl ?_
            refine am_Rr.chk (σ' := (63, [some (.ref 27)], [.int r43, .int 2, .ref 35], (am_sA x44 35 (upd (x44.2.2.1 35) 1 r43)))) rfl (by unfold vp_in; decide) ?_
            refine am_Rr.go 1 (σ' := (71, [some (.ref 27)], [.int r43, .int 2, .ref 35], (am_sA x44 35 (upd (x44.2.2.1 35) 1 r43)))) rfl ?_
            refine am_Rr.chk (σ' := (72, [some (.ref 27)], [], (am_sA (am_sA x44 35 (upd (x44.2.2.1 35) 1 r43)) 35 (upd (upd (x44.2.2.1 35) 1 r43) 2 r43)))) rfl (by unfold vp_in; decide) ?_
            refine am_Rr.go 4 (σ' := (if (x44.1 871) = 0 then 179 else 141, [some (.ref 27)], [], (am_sA (am_sA x44 35 (upd (x44.2.2.1 35) 1 r43)) 35 (upd (upd (x44.2.2.1 35) 1 r43) 2 r43)))) rfl ?_
            refine am_Rr.ite (fun h47 => ?_) (fun h47 => ?_)
            · rw [if_pos h47] at hF
              refine am_Rr.go 2 (σ' := (181, [some (.ref 27)], [.int 0, .ref 27], (am_sA (am_sA x44 35 (upd (x44.2.2.1 35) 1 r43)) 35 (upd (upd (x44.2.2.1 35) 1 r43) 2 r43)))) rfl ?_
              refine am_Rr.chk (σ' := (184, [some (.ref 27)], [], (am_uI (am_sA (am_sA x44 35 (upd (x44.2.2.1 35) 1 r43)) 35 (upd (upd (x44.2.2.1 35) 1 r43) 2 r43)) 871 0))) rfl (by first | exact Or.inl rfl | exact Or.inr rfl) ?_
              obtain rfl := Option.some.inj hF
              exact am_Rr.ret (v := none) (x := (am_uI (am_sA (am_sA x44 35 (upd (x44.2.2.1 35) 1 r43)) 35 (upd (upd (x44.2.2.1 35) 1 r43) 2 r43)) 871 0)) rfl (by trivial) ⟨rfl, rfl⟩
            · rw [if_neg h47] at hF
              refine am_Rr.go 5 (σ' := (if (x44.1 869) ≤ (x44.1 870) then 179 else 152, [some (.ref 27)], [], (am_sA (am_sA x44 35 (upd (x44.2.2.1 35) 1 r43)) 35 (upd (upd (x44.2.2.1 35) 1 r43) 2 r43)))) rfl ?_
              refine am_Rr.ite (fun h49 => ?_) (fun h49 => ?_)
              · rw [if_pos h49] at hF
                refine am_Rr.go 2 (σ' := (181, [some (.ref 27)], [.int 0, .ref 27], (am_sA (am_sA x44 35 (upd (x44.2.2.1 35) 1 r43)) 35 (upd (upd (x44.2.2.1 35) 1 r43) 2 r43)))) rfl ?_
                refine am_Rr.chk (σ' := (184, [some (.ref 27)], [], (am_uI (am_sA (am_sA x44 35 (upd (x44.2.2.1 35) 1 r43)) 35 (upd (upd (x44.2.2.1 35) 1 r43) 2 r43)) 871 0))) rfl (by first | exact Or.inl rfl | exact Or.inr rfl) ?_
                obtain rfl := Option.some.inj hF
                exact am_Rr.ret (v := none) (x := (am_uI (am_sA (am_sA x44 35 (upd (x44.2.2.1 35) 1 r43)) 35 (upd (upd (x44.2.2.1 35) 1 r43) 2 r43)) 871 0)) rfl (by trivial) ⟨rfl, rfl⟩
              · rw [if_neg h49] at hF
                refine am_Rr.go 4 (σ' := (160, [some (.ref 27)], [.int (x44.1 870), .ref 31], (am_sA (am_sA x44 35 (upd (x44.2.2.1 35) 1 r43)) 35 (upd (upd (x44.2.2.1 35) 1 r43) 2 r43)))) rfl ?_
                by_cases c51 : 0 ≤ (x44.1 870).toInt ∧ (x44.1 870).toInt < 96
                · rw [if_pos c51] at hF
                  refine am_Rr.chk (σ' := (161, [some (.ref 27)], [.int ((x44.2.2.1 31) (x44.1 870).toNatClampNeg)], (am_sA (am_sA x44 35 (upd (x44.2.2.1 35) 1 r43)) 35 (upd (upd (x44.2.2.1 35) 1 r43) 2 r43)))) rfl (by exact vp_in_iff.mpr c51) ?_
                  refine am_Rr.go 2 (σ' := (if ((x44.2.2.1 31) (x44.1 870).toNatClampNeg) = 59 then 166 else 179, [some (.ref 27)], [], (am_sA (am_sA x44 35 (upd (x44.2.2.1 35) 1 r43)) 35 (upd (upd (x44.2.2.1 35) 1 r43) 2 r43)))) rfl ?_
                  refine am_Rr.ite (fun h52 => ?_) (fun h52 => ?_)
                  · rw [if_pos h52] at hF
                    refine am_Rr.go 7 (σ' := (184, [some (.ref 27)], [], (am_uI (am_sA (am_sA x44 35 (upd (x44.2.2.1 35) 1 r43)) 35 (upd (upd (x44.2.2.1 35) 1 r43) 2 r43)) 870 ((x44.1 870) + 1)))) rfl ?_
                    obtain rfl := Option.some.inj hF
                    exact am_Rr.ret (v := none) (x := (am_uI (am_sA (am_sA x44 35 (upd (x44.2.2.1 35) 1 r43)) 35 (upd (upd (x44.2.2.1 35) 1 r43) 2 r43)) 870 ((x44.1 870) + 1))) rfl (by trivial) ⟨rfl, rfl⟩
                  · rw [if_neg h52] at hF
                    refine am_Rr.go 2 (σ' := (181, [some (.ref 27)], [.int 0, .ref 27], (am_sA (am_sA x44 35 (upd (x44.2.2.1 35) 1 r43)) 35 (upd (upd (x44.2.2.1 35) 1 r43) 2 r43)))) rfl ?_
                    refine am_Rr.chk (σ' := (184, [some (.ref 27)], [], (am_uI (am_sA (am_sA x44 35 (upd (x44.2.2.1 35) 1 r43)) 35 (upd (upd (x44.2.2.1 35) 1 r43) 2 r43)) 871 0))) rfl (by first | exact Or.inl rfl | exact Or.inr rfl) ?_
                    obtain rfl := Option.some.inj hF
                    exact am_Rr.ret (v := none) (x := (am_uI (am_sA (am_sA x44 35 (upd (x44.2.2.1 35) 1 r43)) 35 (upd (upd (x44.2.2.1 35) 1 r43) 2 r43)) 871 0)) rfl (by trivial) ⟨rfl, rfl⟩
                · rw [if_neg c51] at hF
                  cases hF
          · rw [if_neg h46] at hF
            refine am_Rr.go 2 (σ' := (68, [some (.ref 27)], [.int 2, .ref 27, .int 2, .ref 35], (am_sA x44 35 (upd (x44.2.2.1 35) 1 r43)))) rfl ?_
            cases g56 : G_X8_figures (2 : Int32) (am_sA x44 35 (upd (x44.2.2.1 35) 1 r43)) with
            | none => rw [g56] at hF; cases hF
            | some q_ =>
              obtain ⟨r54, x55⟩ := q_
              rw [g56] at hF
              dsimp only at hF
              refine am_Rr.call (pc := 71) (ls := [some (.ref 27)]) (st := [.int 2, .ref 35]) rfl (A_X8_figures d g56) ?_
              rintro _ _ ⟨rfl, rfl⟩
              show am_Rr _ _ (71, [some (.ref 27)], [.int r54, .int 2, .ref 35], x55) _
              refine am_Rr.chk (σ' := (72, [some (.ref 27)], [], (am_sA x55 35 (upd (x55.2.2.1 35) 2 r54)))) rfl (by unfold vp_in; decide) ?_
              refine am_Rr.go 4 (σ' := (if (x55.1 871) = 0 then 179 else 141, [some (.ref 27)], [], (am_sA x55 35 (upd (x55.2.2.1 35) 2 r54)))) rfl ?_
              refine am_Rr.ite (fun h57 => ?_) (fun h57 => ?_)
              · rw [if_pos h57] at hF
                refine am_Rr.go 2 (σ' := (181, [some (.ref 27)], [.int 0, .ref 27], (am_sA x55 35 (upd (x55.2.2.1 35) 2 r54)))) rfl ?_
                refine am_Rr.chk (σ' := (184, [some (.ref 27)], [], (am_uI (am_sA x55 35 (upd (x55.2.2.1 35) 2 r54)) 871 0))) rfl (by first | exact Or.inl rfl | exact Or.inr rfl) ?_
                obtain rfl := Option.some.inj hF
                exact am_Rr.ret (v := none) (x := (am_uI (am_sA x55 35 (upd (x55.2.2.1 35) 2 r54)) 871 0)) rfl (by trivial) ⟨rfl, rfl⟩
              · rw [if_neg h57] at hF
                refine am_Rr.go 5 (σ' := (if (x55.1 869) ≤ (x55.1 870) then 179 else 152, [some (.ref 27)], [], (am_sA x55 35 (upd (x55.2.2.1 35) 2 r54)))) rfl ?_
                refine am_Rr.ite (fun h59 => ?_) (fun h59 => ?_)
                · rw [if_pos h59] at hF
                  refine am_Rr.go 2 (σ' := (181, [some (.ref 27)], [.int 0, .ref 27], (am_sA x55 35 (upd (x55.2.2.1 35) 2 r54)))) rfl ?_
                  refine am_Rr.chk (σ' := (184, [some (.ref 27)], [], (am_uI (am_sA x55 35 (upd (x55.2.2.1 35) 2 r54)) 871 0))) rfl (by first | exact Or.inl rfl | exact Or.inr rfl) ?_
                  obtain rfl := Option.some.inj hF
                  exact am_Rr.ret (v := none) (x := (am_uI (am_sA x55 35 (upd (x55.2.2.1 35) 2 r54)) 871 0)) rfl (by trivial) ⟨rfl, rfl⟩
                · rw [if_neg h59] at hF
                  refine am_Rr.go 4 (σ' := (160, [some (.ref 27)], [.int (x55.1 870), .ref 31], (am_sA x55 35 (upd (x55.2.2.1 35) 2 r54)))) rfl ?_
                  by_cases c61 : 0 ≤ (x55.1 870).toInt ∧ (x55.1 870).toInt < 96
                  · rw [if_pos c61] at hF
                    refine am_Rr.chk (σ' := (161, [some (.ref 27)], [.int ((x55.2.2.1 31) (x55.1 870).toNatClampNeg)], (am_sA x55 35 (upd (x55.2.2.1 35) 2 r54)))) rfl (by exact vp_in_iff.mpr c61) ?_
                    refine am_Rr.go 2 (σ' := (if ((x55.2.2.1 31) (x55.1 870).toNatClampNeg) = 59 then 166 else 179, [some (.ref 27)], [], (am_sA x55 35 (upd (x55.2.2.1 35) 2 r54)))) rfl ?_
                    refine am_Rr.ite (fun h62 => ?_) (fun h62 => ?_)
                    · rw [if_pos h62] at hF
                      refine am_Rr.go 7 (σ' := (184, [some (.ref 27)], [], (am_uI (am_sA x55 35 (upd (x55.2.2.1 35) 2 r54)) 870 ((x55.1 870) + 1)))) rfl ?_
                      obtain rfl := Option.some.inj hF
                      exact am_Rr.ret (v := none) (x := (am_uI (am_sA x55 35 (upd (x55.2.2.1 35) 2 r54)) 870 ((x55.1 870) + 1))) rfl (by trivial) ⟨rfl, rfl⟩
                    · rw [if_neg h62] at hF
                      refine am_Rr.go 2 (σ' := (181, [some (.ref 27)], [.int 0, .ref 27], (am_sA x55 35 (upd (x55.2.2.1 35) 2 r54)))) rfl ?_
                      refine am_Rr.chk (σ' := (184, [some (.ref 27)], [], (am_uI (am_sA x55 35 (upd (x55.2.2.1 35) 2 r54)) 871 0))) rfl (by first | exact Or.inl rfl | exact Or.inr rfl) ?_
                      obtain rfl := Option.some.inj hF
                      exact am_Rr.ret (v := none) (x := (am_uI (am_sA x55 35 (upd (x55.2.2.1 35) 2 r54)) 871 0)) rfl (by trivial) ⟨rfl, rfl⟩
                  · rw [if_neg c61] at hF
                    cases hF
