noncomputable def G_X7_together (a : Int32) (x : am_X) : Option (Int32 × am_X) := (if (x.1 35) = 0 then (match G_X7_refused (-3 : Int32) x with | none => none | some (r2, x3) => some (r2, x3)) else (match G_X7_wrongMinute a x with | none => none | some (r5, x6) => (if (0 : Int32) ≤ r5 then (match G_X7_looksOfAll a x6 with | none => none | some (r9, x10) => some (r9, x10)) else (match G_X7_refused r5 x6 with | none => none | some (r12, x13) => some (r12, x13)))))
theorem A_X7_together (d : Nat) {a : Int32} {x : am_X} {res : Int32 × am_X} (hF : G_X7_together a x = some res) : am_T (d + 8) mX7_together [.ref 0, .int a] x (fun ro y => ro = some (.int res.1) ∧ res.2 = y) := by
  refine am_T.of rfl ?_
  show am_Rr (d + 7) kX7_together (0, [some (.ref 0), some (.int a), none], [], x) _
  unfold G_X7_together at hF
  refine am_Rr.go 4 (σ' := (if (x.1 35) = 0 then 10 else 17, [some (.ref 0), some (.int a), none], [], x)) rfl ?_
  refine am_Rr.ite (fun h1 => ?_) (fun h1 => ?_)
  · rw [if_pos h1] at hF
    refine am_Rr.go 2 (σ' := (13, [some (.ref 0), some (.int a), none], [.int (-3), .ref 0], x)) rfl ?_
    cases g4 : G_X7_refused (-3 : Int32) x with
    | none => rw [g4] at hF; cases hF
    | some q_ =>
      obtain ⟨r2, x3⟩ := q_
      rw [g4] at hF
      dsimp only at hF
      refine am_Rr.call (pc := 16) (ls := [some (.ref 0), some (.int a), none]) (st := []) rfl (A_X7_refused (d + 5) g4) ?_
      rintro _ _ ⟨rfl, rfl⟩
      show am_Rr _ _ (16, [some (.ref 0), some (.int a), none], [.int r2], x3) _
      obtain rfl := Option.some.inj hF
      exact am_Rr.ret (v := some (.int r2)) (x := x3) rfl (by trivial) ⟨rfl, rfl⟩
  · rw [if_neg h1] at hF
    refine am_Rr.go 1 (σ' := (18, [some (.ref 0), some (.int a), none], [.int a], x)) rfl ?_
    cases g7 : G_X7_wrongMinute a x with
    | none => rw [g7] at hF; cases hF
    | some q_ =>
      obtain ⟨r5, x6⟩ := q_
      rw [g7] at hF
      dsimp only at hF
      refine am_Rr.call (pc := 21) (ls := [some (.ref 0), some (.int a), none]) (st := []) rfl (A_X7_wrongMinute (d + 4) g7) ?_
      rintro _ _ ⟨rfl, rfl⟩
      show am_Rr _ _ (21, [some (.ref 0), some (.int a), none], [.int r5], x6) _
      refine am_Rr.go 3 (σ' := (if (0 : Int32) ≤ r5 then 34 else 26, [some (.ref 0), some (.int a), some (.int r5)], [], x6)) rfl ?_
      refine am_Rr.ite (fun h8 => ?_) (fun h8 => ?_)
      · rw [if_pos h8] at hF
        refine am_Rr.go 2 (σ' := (36, [some (.ref 0), some (.int a), some (.int r5)], [.int a, .ref 0], x6)) rfl ?_
        cases g11 : G_X7_looksOfAll a x6 with
        | none => rw [g11] at hF; cases hF
        | some q_ =>
          obtain ⟨r9, x10⟩ := q_
          rw [g11] at hF
          dsimp only at hF
          refine am_Rr.call (pc := 39) (ls := [some (.ref 0), some (.int a), some (.int r5)]) (st := []) rfl (A_X7_looksOfAll d g11) ?_
          rintro _ _ ⟨rfl, rfl⟩
          show am_Rr _ _ (39, [some (.ref 0), some (.int a), some (.int r5)], [.int r9], x10) _
          obtain rfl := Option.some.inj hF
          exact am_Rr.ret (v := some (.int r9)) (x := x10) rfl (by trivial) ⟨rfl, rfl⟩
      · rw [if_neg h8] at hF
        refine am_Rr.go 2 (σ' := (28, [some (.ref 0), some (.int a), some (.int r5)], [.int r5, .ref 0], x6)) rfl ?_
        cases g14 : G_X7_refused r5 x6 with
        | none => rw [g14] at hF; cases hF
        | some q_ =>
          obtain ⟨r12, x13⟩ := q_
          rw [g14] at hF
          dsimp only at hF
          refine am_Rr.call (pc := 31) (ls := [some (.ref 0), some (.int a), some (.int r5)]) (st := []) rfl (A_X7_refused (d + 5) g14) ?_
          rintro _ _ ⟨rfl, rfl⟩
          show am_Rr _ _ (31, [some (.ref 0), some (.int a), some (.int r5)], [.int r12], x13) _
          refine am_Rr.go 1 (σ' := (39, [some (.ref 0), some (.int a), some (.int r5)], [.int r12], x13)) rfl ?_
          obtain rfl := Option.some.inj hF
          exact am_Rr.ret (v := some (.int r12)) (x := x13) rfl (by trivial) ⟨rfl, rfl⟩
noncomputable def L_X7_rowTellsSquares_2 : Nat → Int32 → Int32 → am_X → Option (Int32 × am_X)
  | 0, _, _, _ => none
  | n + 1, v1, v2, x => (if (x.1 513) ≤ v2 then some ((1 : Int32), x) else (if am_sq (am_nat16 (x.1 513) (x.2.2.1 17) v2) then L_X7_rowTellsSquares_2 n v1 (v2 + (if (1 : Int32) < v1 then v1 else 1)) x else some ((0 : Int32), x)))
theorem L_X7_rowTellsSquares_2_ok (d : Nat) (res : Int32 × am_X) : ∀ (n : Nat) (v1 : Int32) (v2 : Int32) (x : am_X), L_X7_rowTellsSquares_2 n v1 v2 x = some res → am_Rr (d + 2) kX7_rowTellsSquares (2, [some (.ref 0), some (.int v1), some (.int v2)], [], x) (fun ro y => ro = some (.int res.1) ∧ res.2 = y) := by
  intro n
  induction n with
  | zero =>
    intro v1 v2 x hF
    cases hF
  | succ n ih =>
    intro v1 v2 x hF
    rw [L_X7_rowTellsSquares_2] at hF
    refine am_Rr.go 5 (σ' := (if (x.1 513) ≤ v2 then 40 else 13, [some (.ref 0), some (.int v1), some (.int v2)], [], x)) rfl ?_
    refine am_Rr.ite (fun h1 => ?_) (fun h1 => ?_)
    · rw [if_pos h1] at hF
      refine am_Rr.go 1 (σ' := (41, [some (.ref 0), some (.int v1), some (.int v2)], [.int 1], x)) rfl ?_
      obtain rfl := Option.some.inj hF
      exact am_Rr.ret (v := some (.int 1)) (x := x) rfl (by first | exact Or.inl rfl | exact Or.inr rfl | assumption) ⟨rfl, rfl⟩
    · rw [if_neg h1] at hF
      refine am_Rr.go 3 (σ' := (18, [some (.ref 0), some (.int v1), some (.int v2)], [.int v2, .ref 16], x)) rfl ?_
      refine am_Rr.call (pc := 21) (ls := [some (.ref 0), some (.int v1), some (.int v2)]) (st := []) rfl (S_at_16 d v2 x) ?_
      rintro _ _ ⟨rfl, rfl⟩
      show am_Rr _ _ (21, [some (.ref 0), some (.int v1), some (.int v2)], [.int (am_nat16 (x.1 513) (x.2.2.1 17) v2)], x) _
      refine am_Rr.call (pc := 24) (ls := [some (.ref 0), some (.int v1), some (.int v2)]) (st := []) rfl (S_isSquare d (am_nat16 (x.1 513) (x.2.2.1 17) v2) x) ?_
      rintro _ _ ⟨rfl, (⟨rfl, b2⟩ | ⟨rfl, b2⟩)⟩
      · rw [if_pos b2] at hF
        show am_Rr _ _ (24, [some (.ref 0), some (.int v1), some (.int v2)], [.int 1], x) _
        refine am_Rr.go 8 (σ' := (2, [some (.ref 0), some (.int v1), some (.int (v2 + (if (1 : Int32) < v1 then v1 else 1)))], [], x)) rfl ?_
        exact ih _ _ _ hF
      · rw [if_neg b2] at hF
        show am_Rr _ _ (24, [some (.ref 0), some (.int v1), some (.int v2)], [.int 0], x) _
        refine am_Rr.go 2 (σ' := (28, [some (.ref 0), some (.int v1), some (.int v2)], [.int 0], x)) rfl ?_
        obtain rfl := Option.some.inj hF
        exact am_Rr.ret (v := some (.int 0)) (x := x) rfl (by first | exact Or.inl rfl | exact Or.inr rfl | assumption) ⟨rfl, rfl⟩
noncomputable def G_X7_rowTellsSquares (a : Int32) (x : am_X) : Option (Int32 × am_X) := L_X7_rowTellsSquares_2 1000 a (0 : Int32) x
theorem A_X7_rowTellsSquares (d : Nat) {a : Int32} {x : am_X} {res : Int32 × am_X} (hF : G_X7_rowTellsSquares a x = some res) : am_T (d + 3) mX7_rowTellsSquares [.ref 0, .int a] x (fun ro y => ro = some (.int res.1) ∧ res.2 = y) := by
  refine am_T.of rfl ?_
  show am_Rr (d + 2) kX7_rowTellsSquares (0, [some (.ref 0), some (.int a), none], [], x) _
  unfold G_X7_rowTellsSquares at hF
  refine am_Rr.go 2 (σ' := (2, [some (.ref 0), some (.int a), some (.int 0)], [], x)) rfl ?_
  exact L_X7_rowTellsSquares_2_ok d res _ _ _ _ hF
noncomputable def L_X7_squaresOfRow_4 : Nat → Int64 → Int32 → am_X → Option (Int64 × am_X)
  | 0, _, _, _ => none
  | n + 1, v1, v3, x => (if (x.1 513) ≤ v3 then some (v1, x) else L_X7_squaresOfRow_4 n (v1 ||| (am_bit (am_nat16 (x.1 513) (x.2.2.1 17) v3))) (v3 + 1) x)
theorem L_X7_squaresOfRow_4_ok (d : Nat) (res : Int64 × am_X) : ∀ (n : Nat) (v1 : Int64) (v3 : Int32) (x : am_X), L_X7_squaresOfRow_4 n v1 v3 x = some res → am_Rr (d + 3) kX7_squaresOfRow (4, [some (.ref 0), some (.long v1), none, some (.int v3)], [], x) (fun ro y => ro = some (.long res.1) ∧ res.2 = y) := by
  intro n
  induction n with
  | zero =>
    intro v1 v3 x hF
    cases hF
  | succ n ih =>
    intro v1 v3 x hF
    rw [L_X7_squaresOfRow_4] at hF
    refine am_Rr.go 5 (σ' := (if (x.1 513) ≤ v3 then 35 else 15, [some (.ref 0), some (.long v1), none, some (.int v3)], [], x)) rfl ?_
    refine am_Rr.ite (fun h1 => ?_) (fun h1 => ?_)
    · rw [if_pos h1] at hF
      refine am_Rr.go 1 (σ' := (36, [some (.ref 0), some (.long v1), none, some (.int v3)], [.long v1], x)) rfl ?_
      obtain rfl := Option.some.inj hF
      exact am_Rr.ret (v := some (.long v1)) (x := x) rfl (by trivial) ⟨rfl, rfl⟩
    · rw [if_neg h1] at hF
      refine am_Rr.go 4 (σ' := (21, [some (.ref 0), some (.long v1), none, some (.int v3)], [.int v3, .ref 16, .long v1], x)) rfl ?_
      refine am_Rr.call (pc := 24) (ls := [some (.ref 0), some (.long v1), none, some (.int v3)]) (st := [.long v1]) rfl (S_at_16 (d + 1) v3 x) ?_
      rintro _ _ ⟨rfl, rfl⟩
      show am_Rr _ _ (24, [some (.ref 0), some (.long v1), none, some (.int v3)], [.int (am_nat16 (x.1 513) (x.2.2.1 17) v3), .long v1], x) _
      refine am_Rr.call (pc := 27) (ls := [some (.ref 0), some (.long v1), none, some (.int v3)]) (st := [.long v1]) rfl (S_bit d (am_nat16 (x.1 513) (x.2.2.1 17) v3) x) ?_
      rintro _ _ ⟨rfl, rfl⟩
      show am_Rr _ _ (27, [some (.ref 0), some (.long v1), none, some (.int v3)], [.long (am_bit (am_nat16 (x.1 513) (x.2.2.1 17) v3)), .long v1], x) _
      refine am_Rr.go 4 (σ' := (4, [some (.ref 0), some (.long (v1 ||| (am_bit (am_nat16 (x.1 513) (x.2.2.1 17) v3)))), none, some (.int (v3 + 1))], [], x)) rfl ?_
      exact ih _ _ _ hF
noncomputable def G_X7_squaresOfRow  (x : am_X) : Option (Int64 × am_X) := L_X7_squaresOfRow_4 1000 (0 : Int64) (0 : Int32) x
theorem A_X7_squaresOfRow (d : Nat)  {x : am_X} {res : Int64 × am_X} (hF : G_X7_squaresOfRow  x = some res) : am_T (d + 4) mX7_squaresOfRow [.ref 0] x (fun ro y => ro = some (.long res.1) ∧ res.2 = y) := by
  refine am_T.of rfl ?_
  show am_Rr (d + 3) kX7_squaresOfRow (0, [some (.ref 0), none, none, none], [], x) _
  unfold G_X7_squaresOfRow at hF
  refine am_Rr.go 4 (σ' := (4, [some (.ref 0), some (.long 0), none, some (.int 0)], [], x)) rfl ?_
  exact L_X7_squaresOfRow_4_ok d res _ _ _ _ hF
noncomputable def G_X7_reachedWhenHeld (w : Int64) (x : am_X) : Option (Int64 × am_X) := (match G_X7_flooded (w &&& ((am_bit (x.1 36)) ^^^ (-1))) x with | none => none | some (r1, x2) => some (r1, x2))
theorem A_X7_reachedWhenHeld (d : Nat) {w : Int64} {x : am_X} {res : Int64 × am_X} (hF : G_X7_reachedWhenHeld w x = some res) : am_T (d + 5) mX7_reachedWhenHeld [.ref 0, .long w] x (fun ro y => ro = some (.long res.1) ∧ res.2 = y) := by
  refine am_T.of rfl ?_
  show am_Rr (d + 4) kX7_reachedWhenHeld (0, [some (.ref 0), some (.long w), none], [], x) _
  unfold G_X7_reachedWhenHeld at hF
  refine am_Rr.go 5 (σ' := (9, [some (.ref 0), some (.long w), none], [.int (x.1 36), .long w, .ref 0], x)) rfl ?_
  refine am_Rr.call (pc := 12) (ls := [some (.ref 0), some (.long w), none]) (st := [.long w, .ref 0]) rfl (S_bit (d + 1) (x.1 36) x) ?_
  rintro _ _ ⟨rfl, rfl⟩
  show am_Rr _ _ (12, [some (.ref 0), some (.long w), none], [.long (am_bit (x.1 36)), .long w, .ref 0], x) _
  refine am_Rr.go 3 (σ' := (17, [some (.ref 0), some (.long w), none], [.long (w &&& ((am_bit (x.1 36)) ^^^ (-1))), .ref 0], x)) rfl ?_
  cases g3 : G_X7_flooded (w &&& ((am_bit (x.1 36)) ^^^ (-1))) x with
  | none => rw [g3] at hF; cases hF
  | some q_ =>
    obtain ⟨r1, x2⟩ := q_
    rw [g3] at hF
    dsimp only at hF
    refine am_Rr.call (pc := 20) (ls := [some (.ref 0), some (.long w), none]) (st := []) rfl (A_X7_flooded d g3) ?_
    rintro _ _ ⟨rfl, rfl⟩
    show am_Rr _ _ (20, [some (.ref 0), some (.long w), none], [.long r1], x2) _
    obtain rfl := Option.some.inj hF
    exact am_Rr.ret (v := some (.long r1)) (x := x2) rfl (by trivial) ⟨rfl, rfl⟩
noncomputable def L_X7_oneMore_10 : Nat → Int64 → Int32 → Int32 → Int32 → am_X → Option (Int32 × am_X)
  | 0, _, _, _, _, _ => none
  | n + 1, v1, v3, v4, v5, x => (if (36 : Int32) ≤ v5 then some (v3, x) else (match G_X7_reachedWhenHeld (v1 ||| (am_bit v5)) x with | none => none | some (r2, x3) => (if v4 ≤ (am_bc r2) then L_X7_oneMore_10 n v1 v3 v4 (v5 + 1) x3 else L_X7_oneMore_10 n v1 v5 (am_bc r2) (v5 + 1) x3)))
theorem L_X7_oneMore_10_ok (d : Nat) (res : Int32 × am_X) : ∀ (n : Nat) (v1 : Int64) (v3 : Int32) (v4 : Int32) (v5 : Int32) (x : am_X), L_X7_oneMore_10 n v1 v3 v4 v5 x = some res → am_Rr (d + 5) kX7_oneMore (10, [some (.ref 0), some (.long v1), none, some (.int v3), some (.int v4), some (.int v5), none], [], x) (fun ro y => ro = some (.int res.1) ∧ res.2 = y) := by
  intro n
  induction n with
  | zero =>
    intro v1 v3 v4 v5 x hF
    cases hF
  | succ n ih =>
    intro v1 v3 v4 v5 x hF
    rw [L_X7_oneMore_10] at hF
    refine am_Rr.go 3 (σ' := (if (36 : Int32) ≤ v5 then 53 else 17, [some (.ref 0), some (.long v1), none, some (.int v3), some (.int v4), some (.int v5), none], [], x)) rfl ?_
    refine am_Rr.ite (fun h1 => ?_) (fun h1 => ?_)
    · rw [if_pos h1] at hF
      refine am_Rr.go 1 (σ' := (54, [some (.ref 0), some (.long v1), none, some (.int v3), some (.int v4), some (.int v5), none], [.int v3], x)) rfl ?_
      obtain rfl := Option.some.inj hF
      exact am_Rr.ret (v := some (.int v3)) (x := x) rfl (by trivial) ⟨rfl, rfl⟩
    · rw [if_neg h1] at hF
      refine am_Rr.go 3 (σ' := (21, [some (.ref 0), some (.long v1), none, some (.int v3), some (.int v4), some (.int v5), none], [.int v5, .long v1, .ref 0], x)) rfl ?_
      refine am_Rr.call (pc := 24) (ls := [some (.ref 0), some (.long v1), none, some (.int v3), some (.int v4), some (.int v5), none]) (st := [.long v1, .ref 0]) rfl (S_bit (d + 2) v5 x) ?_
      rintro _ _ ⟨rfl, rfl⟩
      show am_Rr _ _ (24, [some (.ref 0), some (.long v1), none, some (.int v3), some (.int v4), some (.int v5), none], [.long (am_bit v5), .long v1, .ref 0], x) _
      refine am_Rr.go 1 (σ' := (25, [some (.ref 0), some (.long v1), none, some (.int v3), some (.int v4), some (.int v5), none], [.long (v1 ||| (am_bit v5)), .ref 0], x)) rfl ?_
      cases g4 : G_X7_reachedWhenHeld (v1 ||| (am_bit v5)) x with
      | none => rw [g4] at hF; cases hF
      | some q_ =>
        obtain ⟨r2, x3⟩ := q_
        rw [g4] at hF
        dsimp only at hF
        refine am_Rr.call (pc := 28) (ls := [some (.ref 0), some (.long v1), none, some (.int v3), some (.int v4), some (.int v5), none]) (st := []) rfl (A_X7_reachedWhenHeld d g4) ?_
        rintro _ _ ⟨rfl, rfl⟩
        show am_Rr _ _ (28, [some (.ref 0), some (.long v1), none, some (.int v3), some (.int v4), some (.int v5), none], [.long r2], x3) _
        refine am_Rr.call (pc := 31) (ls := [some (.ref 0), some (.long v1), none, some (.int v3), some (.int v4), some (.int v5), none]) (st := []) rfl (S_bitCountJ (d + 3) r2 x3) ?_
        rintro _ _ ⟨rfl, rfl⟩
        show am_Rr _ _ (31, [some (.ref 0), some (.long v1), none, some (.int v3), some (.int v4), some (.int v5), none], [.int (am_bc r2)], x3) _
        refine am_Rr.go 4 (σ' := (if v4 ≤ (am_bc r2) then 47 else 40, [some (.ref 0), some (.long v1), none, some (.int v3), some (.int v4), some (.int v5), some (.int (am_bc r2))], [], x3)) rfl ?_
        refine am_Rr.ite (fun h5 => ?_) (fun h5 => ?_)
        · rw [if_pos h5] at hF
          refine am_Rr.go 2 (σ' := (10, [some (.ref 0), some (.long v1), none, some (.int v3), some (.int v4), some (.int (v5 + 1)), some (.int (am_bc r2))], [], x3)) rfl ?_
          refine am_Rr.weak (ls0 := [some (.ref 0), some (.long v1), none, some (.int v3), some (.int v4), some (.int (v5 + 1)), none]) (by simp [am_le]) ?_
          exact ih _ _ _ _ _ hF
        · rw [if_neg h5] at hF
          refine am_Rr.go 6 (σ' := (10, [some (.ref 0), some (.long v1), none, some (.int v5), some (.int (am_bc r2)), some (.int (v5 + 1)), some (.int (am_bc r2))], [], x3)) rfl ?_
          refine am_Rr.weak (ls0 := [some (.ref 0), some (.long v1), none, some (.int v5), some (.int (am_bc r2)), some (.int (v5 + 1)), none]) (by simp [am_le]) ?_
          exact ih _ _ _ _ _ hF
noncomputable def G_X7_oneMore (w : Int64) (x : am_X) : Option (Int32 × am_X) := L_X7_oneMore_10 1000 w (-9 : Int32) (37 : Int32) (0 : Int32) x
theorem A_X7_oneMore (d : Nat) {w : Int64} {x : am_X} {res : Int32 × am_X} (hF : G_X7_oneMore w x = some res) : am_T (d + 6) mX7_oneMore [.ref 0, .long w] x (fun ro y => ro = some (.int res.1) ∧ res.2 = y) := by
  refine am_T.of rfl ?_
  show am_Rr (d + 5) kX7_oneMore (0, [some (.ref 0), some (.long w), none, none, none, none, none], [], x) _
  unfold G_X7_oneMore at hF
  refine am_Rr.go 6 (σ' := (10, [some (.ref 0), some (.long w), none, some (.int (-9)), some (.int 37), some (.int 0), none], [], x)) rfl ?_
  exact L_X7_oneMore_10_ok d res _ _ _ _ _ _ hF
noncomputable def G_X7_hold (a : Int32) (x : am_X) : Option (Int32 × am_X) := (if a < 0 then (match G_X7_refused (-2 : Int32) x with | none => none | some (r2, x3) => some (r2, x3)) else (if a ≤ 2 then (match G_X7_rowTellsSquares (1 : Int32) x with | none => none | some (r6, x7) => (if r6 = 0 then (match G_X7_refused (-3 : Int32) x7 with | none => none | some (r10, x11) => some (r10, x11)) else (match G_X7_squaresOfRow  x7 with | none => none | some (r13, x14) => (if a = 0 then (match G_X7_reachedWhenHeld r13 x14 with | none => none | some (r17, x18) => (if (lg_cmp (r17 &&& (am_sqo (x18.2.2.2 2) (5 : Int32))) 0) = 0 then some ((0 : Int32), x18) else some ((1 : Int32), x18))) else (if a = 1 then (match G_X7_reachedWhenHeld r13 x14 with | none => none | some (r22, x23) => some ((am_bc r22), x23)) else (match G_X7_oneMore r13 x14 with | none => none | some (r25, x26) => some (r25, x26))))))) else (match G_X7_refused (-2 : Int32) x with | none => none | some (r28, x29) => some (r28, x29))))
theorem A_X7_hold (d : Nat) {a : Int32} {x : am_X} {res : Int32 × am_X} (hF : G_X7_hold a x = some res) : am_T (d + 7) mX7_hold [.ref 0, .int a] x (fun ro y => ro = some (.int res.1) ∧ res.2 = y) := by
  refine am_T.of rfl ?_
  show am_Rr (d + 6) kX7_hold (0, [some (.ref 0), some (.int a), none, none], [], x) _
  unfold G_X7_hold at hF
  refine am_Rr.go 2 (σ' := (if a < 0 then 9 else 4, [some (.ref 0), some (.int a), none, none], [], x)) rfl ?_
  refine am_Rr.ite (fun h1 => ?_) (fun h1 => ?_)
  · rw [if_pos h1] at hF
    refine am_Rr.go 2 (σ' := (12, [some (.ref 0), some (.int a), none, none], [.int (-2), .ref 0], x)) rfl ?_
    cases g4 : G_X7_refused (-2 : Int32) x with
    | none => rw [g4] at hF; cases hF
    | some q_ =>
      obtain ⟨r2, x3⟩ := q_
      rw [g4] at hF
      dsimp only at hF
      refine am_Rr.call (pc := 15) (ls := [some (.ref 0), some (.int a), none, none]) (st := []) rfl (A_X7_refused (d + 4) g4) ?_
      rintro _ _ ⟨rfl, rfl⟩
      show am_Rr _ _ (15, [some (.ref 0), some (.int a), none, none], [.int r2], x3) _
      obtain rfl := Option.some.inj hF
      exact am_Rr.ret (v := some (.int r2)) (x := x3) rfl (by trivial) ⟨rfl, rfl⟩
  · rw [if_neg h1] at hF
    refine am_Rr.go 3 (σ' := (if a ≤ 2 then 16 else 9, [some (.ref 0), some (.int a), none, none], [], x)) rfl ?_
    refine am_Rr.ite (fun h5 => ?_) (fun h5 => ?_)
    · rw [if_pos h5] at hF
      refine am_Rr.go 2 (σ' := (18, [some (.ref 0), some (.int a), none, none], [.int 1, .ref 0], x)) rfl ?_
      cases g8 : G_X7_rowTellsSquares (1 : Int32) x with
      | none => rw [g8] at hF; cases hF
      | some q_ =>
        obtain ⟨r6, x7⟩ := q_
        rw [g8] at hF
        dsimp only at hF
        refine am_Rr.call (pc := 21) (ls := [some (.ref 0), some (.int a), none, none]) (st := []) rfl (A_X7_rowTellsSquares (d + 3) g8) ?_
        rintro _ _ ⟨rfl, rfl⟩
        show am_Rr _ _ (21, [some (.ref 0), some (.int a), none, none], [.int r6], x7) _
        refine am_Rr.go 1 (σ' := (if r6 = 0 then 24 else 31, [some (.ref 0), some (.int a), none, none], [], x7)) rfl ?_
        refine am_Rr.ite (fun h9 => ?_) (fun h9 => ?_)
        · rw [if_pos h9] at hF
          refine am_Rr.go 2 (σ' := (27, [some (.ref 0), some (.int a), none, none], [.int (-3), .ref 0], x7)) rfl ?_
          cases g12 : G_X7_refused (-3 : Int32) x7 with
          | none => rw [g12] at hF; cases hF
          | some q_ =>
            obtain ⟨r10, x11⟩ := q_
            rw [g12] at hF
            dsimp only at hF
            refine am_Rr.call (pc := 30) (ls := [some (.ref 0), some (.int a), none, none]) (st := []) rfl (A_X7_refused (d + 4) g12) ?_
            rintro _ _ ⟨rfl, rfl⟩
            show am_Rr _ _ (30, [some (.ref 0), some (.int a), none, none], [.int r10], x11) _
            obtain rfl := Option.some.inj hF
            exact am_Rr.ret (v := some (.int r10)) (x := x11) rfl (by trivial) ⟨rfl, rfl⟩
        · rw [if_neg h9] at hF
          refine am_Rr.go 1 (σ' := (32, [some (.ref 0), some (.int a), none, none], [.ref 0], x7)) rfl ?_
          cases g15 : G_X7_squaresOfRow  x7 with
          | none => rw [g15] at hF; cases hF
          | some q_ =>
            obtain ⟨r13, x14⟩ := q_
            rw [g15] at hF
            dsimp only at hF
            refine am_Rr.call (pc := 35) (ls := [some (.ref 0), some (.int a), none, none]) (st := []) rfl (A_X7_squaresOfRow (d + 2) g15) ?_
            rintro _ _ ⟨rfl, rfl⟩
            show am_Rr _ _ (35, [some (.ref 0), some (.int a), none, none], [.long r13], x14) _
            refine am_Rr.go 3 (σ' := ((if a = 0 then 64 else (if a = 1 then 92 else 101)), [some (.ref 0), some (.int a), some (.long r13), none], [], x14)) rfl ?_
            refine am_Rr.ite (fun h16 => ?_) (fun h16 => ?_)
            · rw [if_pos h16] at hF
              refine am_Rr.go 2 (σ' := (66, [some (.ref 0), some (.int a), some (.long r13), none], [.long r13, .ref 0], x14)) rfl ?_
              cases g19 : G_X7_reachedWhenHeld r13 x14 with
              | none => rw [g19] at hF; cases hF
              | some q_ =>
                obtain ⟨r17, x18⟩ := q_
                rw [g19] at hF
                dsimp only at hF
                refine am_Rr.call (pc := 69) (ls := [some (.ref 0), some (.int a), some (.long r13), none]) (st := []) rfl (A_X7_reachedWhenHeld (d + 1) g19) ?_
                rintro _ _ ⟨rfl, rfl⟩
                show am_Rr _ _ (69, [some (.ref 0), some (.int a), some (.long r13), none], [.long r17], x18) _
                refine am_Rr.go 3 (σ' := (74, [some (.ref 0), some (.int a), some (.long r13), none], [.int 5, .ref 1, .long r17], x18)) rfl ?_
                refine am_Rr.call (pc := 77) (ls := [some (.ref 0), some (.int a), some (.long r13), none]) (st := [.long r17]) rfl (S_squaresOf_1 (d + 4) (5 : Int32) x18) ?_
                rintro _ _ ⟨rfl, rfl⟩
                show am_Rr _ _ (77, [some (.ref 0), some (.int a), some (.long r13), none], [.long (am_sqo (x18.2.2.2 2) (5 : Int32)), .long r17], x18) _
                refine am_Rr.go 4 (σ' := (if (lg_cmp (r17 &&& (am_sqo (x18.2.2.2 2) (5 : Int32))) 0) = 0 then 87 else 83, [some (.ref 0), some (.int a), some (.long r13), none], [], x18)) rfl ?_
                refine am_Rr.ite (fun h20 => ?_) (fun h20 => ?_)
                · rw [if_pos h20] at hF
                  refine am_Rr.go 1 (σ' := (88, [some (.ref 0), some (.int a), some (.long r13), none], [.int 0], x18)) rfl ?_
                  refine am_Rr.call (pc := 91) (ls := [some (.ref 0), some (.int a), some (.long r13), none]) (st := []) rfl (S_yesOrNo (d + 4) (0 : Int32) (by first | exact Or.inl rfl | exact Or.inr rfl) x18) ?_
                  rintro _ _ ⟨rfl, rfl⟩
                  show am_Rr _ _ (91, [some (.ref 0), some (.int a), some (.long r13), none], [.int 0], x18) _
                  obtain rfl := Option.some.inj hF
                  exact am_Rr.ret (v := some (.int 0)) (x := x18) rfl (by trivial) ⟨rfl, rfl⟩
                · rw [if_neg h20] at hF
                  refine am_Rr.go 2 (σ' := (88, [some (.ref 0), some (.int a), some (.long r13), none], [.int 1], x18)) rfl ?_
                  refine am_Rr.call (pc := 91) (ls := [some (.ref 0), some (.int a), some (.long r13), none]) (st := []) rfl (S_yesOrNo (d + 4) (1 : Int32) (by first | exact Or.inl rfl | exact Or.inr rfl) x18) ?_
                  rintro _ _ ⟨rfl, rfl⟩
                  show am_Rr _ _ (91, [some (.ref 0), some (.int a), some (.long r13), none], [.int 1], x18) _
                  obtain rfl := Option.some.inj hF
                  exact am_Rr.ret (v := some (.int 1)) (x := x18) rfl (by trivial) ⟨rfl, rfl⟩
            rw [if_neg h16] at hF
            refine am_Rr.ite (fun h21 => ?_) (fun h21 => ?_)
            · rw [if_pos h21] at hF
              refine am_Rr.go 2 (σ' := (94, [some (.ref 0), some (.int a), some (.long r13), none], [.long r13, .ref 0], x14)) rfl ?_
              cases g24 : G_X7_reachedWhenHeld r13 x14 with
              | none => rw [g24] at hF; cases hF
              | some q_ =>
                obtain ⟨r22, x23⟩ := q_
                rw [g24] at hF
                dsimp only at hF
                refine am_Rr.call (pc := 97) (ls := [some (.ref 0), some (.int a), some (.long r13), none]) (st := []) rfl (A_X7_reachedWhenHeld (d + 1) g24) ?_
                rintro _ _ ⟨rfl, rfl⟩
                show am_Rr _ _ (97, [some (.ref 0), some (.int a), some (.long r13), none], [.long r22], x23) _
                refine am_Rr.call (pc := 100) (ls := [some (.ref 0), some (.int a), some (.long r13), none]) (st := []) rfl (S_bitCountJ (d + 4) r22 x23) ?_
                rintro _ _ ⟨rfl, rfl⟩
                show am_Rr _ _ (100, [some (.ref 0), some (.int a), some (.long r13), none], [.int (am_bc r22)], x23) _
                obtain rfl := Option.some.inj hF
                exact am_Rr.ret (v := some (.int (am_bc r22))) (x := x23) rfl (by trivial) ⟨rfl, rfl⟩
            rw [if_neg h21] at hF
            refine am_Rr.go 2 (σ' := (103, [some (.ref 0), some (.int a), some (.long r13), none], [.long r13, .ref 0], x14)) rfl ?_
            cases g27 : G_X7_oneMore r13 x14 with
            | none => rw [g27] at hF; cases hF
            | some q_ =>
              obtain ⟨r25, x26⟩ := q_
              rw [g27] at hF
              dsimp only at hF
              refine am_Rr.call (pc := 106) (ls := [some (.ref 0), some (.int a), some (.long r13), none]) (st := []) rfl (A_X7_oneMore d g27) ?_
              rintro _ _ ⟨rfl, rfl⟩
              show am_Rr _ _ (106, [some (.ref 0), some (.int a), some (.long r13), none], [.int r25], x26) _
              obtain rfl := Option.some.inj hF
              exact am_Rr.ret (v := some (.int r25)) (x := x26) rfl (by trivial) ⟨rfl, rfl⟩
    · rw [if_neg h5] at hF
      refine am_Rr.go 2 (σ' := (12, [some (.ref 0), some (.int a), none, none], [.int (-2), .ref 0], x)) rfl ?_
      cases g30 : G_X7_refused (-2 : Int32) x with
      | none => rw [g30] at hF; cases hF
      | some q_ =>
        obtain ⟨r28, x29⟩ := q_
        rw [g30] at hF
        dsimp only at hF
        refine am_Rr.call (pc := 15) (ls := [some (.ref 0), some (.int a), none, none]) (st := []) rfl (A_X7_refused (d + 4) g30) ?_
        rintro _ _ ⟨rfl, rfl⟩
        show am_Rr _ _ (15, [some (.ref 0), some (.int a), none, none], [.int r28], x29) _
        obtain rfl := Option.some.inj hF
        exact am_Rr.ret (v := some (.int r28)) (x := x29) rfl (by trivial) ⟨rfl, rfl⟩
noncomputable def L_X7_greatestDivisor_9 : Nat → Int64 → Int64 → Int32 → am_X → Option (Int64 × am_X)
  | 0, _, _, _, _ => none
  | n + 1, v4, v6, v8, x => (if (1000 : Int32) ≤ v8 then some (v4, x) else (if (lg_cmp v6 0) = 0 then some (v4, x) else (if ¬ v6 = 0 then L_X7_greatestDivisor_9 n v6 (v4 - v4 / v6 * v6) (v8 + 1) x else none)))
theorem L_X7_greatestDivisor_9_ok (d : Nat) (res : Int64 × am_X) : ∀ (n : Nat) (v4 : Int64) (v6 : Int64) (v8 : Int32) (x : am_X), L_X7_greatestDivisor_9 n v4 v6 v8 x = some res → am_Rr (d + 1) kX7_greatestDivisor (9, [none, none, none, none, some (.long v4), none, some (.long v6), none, some (.int v8), none, none], [], x) (fun ro y => ro = some (.long res.1) ∧ res.2 = y) := by
  intro n
  induction n with
  | zero =>
    intro v4 v6 v8 x hF
    cases hF
  | succ n ih =>
    intro v4 v6 v8 x hF
    rw [L_X7_greatestDivisor_9] at hF
    refine am_Rr.go 3 (σ' := (if (1000 : Int32) ≤ v8 then 45 else 17, [none, none, none, none, some (.long v4), none, some (.long v6), none, some (.int v8), none, none], [], x)) rfl ?_
    refine am_Rr.ite (fun h1 => ?_) (fun h1 => ?_)
    · rw [if_pos h1] at hF
      refine am_Rr.go 1 (σ' := (47, [none, none, none, none, some (.long v4), none, some (.long v6), none, some (.int v8), none, none], [.long v4], x)) rfl ?_
      obtain rfl := Option.some.inj hF
      exact am_Rr.ret (v := some (.long v4)) (x := x) rfl (by trivial) ⟨rfl, rfl⟩
    · rw [if_neg h1] at hF
      refine am_Rr.go 4 (σ' := (if (lg_cmp v6 0) = 0 then 45 else 24, [none, none, none, none, some (.long v4), none, some (.long v6), none, some (.int v8), none, none], [], x)) rfl ?_
      refine am_Rr.ite (fun h2 => ?_) (fun h2 => ?_)
      · rw [if_pos h2] at hF
        refine am_Rr.go 1 (σ' := (47, [none, none, none, none, some (.long v4), none, some (.long v6), none, some (.int v8), none, none], [.long v4], x)) rfl ?_
        obtain rfl := Option.some.inj hF
        exact am_Rr.ret (v := some (.long v4)) (x := x) rfl (by trivial) ⟨rfl, rfl⟩
      · rw [if_neg h2] at hF
        refine am_Rr.go 2 (σ' := (28, [none, none, none, none, some (.long v4), none, some (.long v6), none, some (.int v8), none, none], [.long v6, .long v4], x)) rfl ?_
        by_cases c3 : ¬ v6 = 0
        · rw [if_pos c3] at hF
          refine am_Rr.chk (σ' := (29, [none, none, none, none, some (.long v4), none, some (.long v6), none, some (.int v8), none, none], [.long (v4 - v4 / v6 * v6)], x)) rfl (by exact c3) ?_
          refine am_Rr.go 7 (σ' := (9, [none, none, none, none, some (.long v6), none, some (.long (v4 - v4 / v6 * v6)), none, some (.int (v8 + 1)), some (.long (v4 - v4 / v6 * v6)), none], [], x)) rfl ?_
          refine am_Rr.weak (ls0 := [none, none, none, none, some (.long v6), none, some (.long (v4 - v4 / v6 * v6)), none, some (.int (v8 + 1)), none, none]) (by simp [am_le]) ?_
          exact ih _ _ _ _ hF
        · rw [if_neg c3] at hF
          cases hF
noncomputable def G_X7_greatestDivisor (w : Int64) (z : Int64) (x : am_X) : Option (Int64 × am_X) := L_X7_greatestDivisor_9 1000 w z (0 : Int32) x
theorem A_X7_greatestDivisor (d : Nat) {w : Int64} {z : Int64} {x : am_X} {res : Int64 × am_X} (hF : G_X7_greatestDivisor w z x = some res) : am_T (d + 2) mX7_greatestDivisor [.long w, .long z] x (fun ro y => ro = some (.long res.1) ∧ res.2 = y) := by
  refine am_T.of rfl ?_
  show am_Rr (d + 1) kX7_greatestDivisor (0, [some (.long w), none, some (.long z), none, none, none, none, none, none, none, none], [], x) _
  unfold G_X7_greatestDivisor at hF
  refine am_Rr.go 6 (σ' := (9, [some (.long w), none, some (.long z), none, some (.long w), none, some (.long z), none, some (.int 0), none, none], [], x)) rfl ?_
  refine am_Rr.weak (ls0 := [none, none, none, none, some (.long w), none, some (.long z), none, some (.int 0), none, none]) (by simp [am_le]) ?_
  exact L_X7_greatestDivisor_9_ok d res _ _ _ _ _ hF
noncomputable def G_X7_ways (a : Int32) (b : Int32) (x : am_X) : Option (Int64 × am_X) := (match G_X7_wrongWays a b x with | none => none | some (r1, x2) => (if (0 : Int32) ≤ r1 then (match G_X0_walk_22_1 a x2 with | none => none | some (_, x6) => some ((am_eo (x6.2.2.2 23) b), x6)) else (match G_X7_refusedLong r1 x2 with | none => none | some (r8, x9) => some (r8, x9))))
theorem A_X7_ways (d : Nat) {a : Int32} {b : Int32} {x : am_X} {res : Int64 × am_X} (hF : G_X7_ways a b x = some res) : am_T (d + 6) mX7_ways [.ref 0, .int a, .int b] x (fun ro y => ro = some (.long res.1) ∧ res.2 = y) := by
  refine am_T.of rfl ?_
  show am_Rr (d + 5) kX7_ways (0, [some (.ref 0), some (.int a), some (.int b), none], [], x) _
  unfold G_X7_ways at hF
  refine am_Rr.go 2 (σ' := (2, [some (.ref 0), some (.int a), some (.int b), none], [.int b, .int a], x)) rfl ?_
  cases g3 : G_X7_wrongWays a b x with
  | none => rw [g3] at hF; cases hF
  | some q_ =>
    obtain ⟨r1, x2⟩ := q_
    rw [g3] at hF
    dsimp only at hF
    refine am_Rr.call (pc := 5) (ls := [some (.ref 0), some (.int a), some (.int b), none]) (st := []) rfl (A_X7_wrongWays (d + 2) g3) ?_
    rintro _ _ ⟨rfl, rfl⟩
    show am_Rr _ _ (5, [some (.ref 0), some (.int a), some (.int b), none], [.int r1], x2) _
    refine am_Rr.go 3 (σ' := (if (0 : Int32) ≤ r1 then 16 else 10, [some (.ref 0), some (.int a), some (.int b), some (.int r1)], [], x2)) rfl ?_
    refine am_Rr.ite (fun h4 => ?_) (fun h4 => ?_)
    · rw [if_pos h4] at hF
      refine am_Rr.go 5 (σ' := (25, [some (.ref 0), some (.int a), some (.int b), some (.int r1)], [.int a, .ref 1, .ref 22], x2)) rfl ?_
      cases g7 : G_X0_walk_22_1 a x2 with
      | none => rw [g7] at hF; cases hF
      | some q_ =>
        obtain ⟨u_, x6⟩ := q_
        rw [g7] at hF
        dsimp only at hF
        refine am_Rr.call (pc := 28) (ls := [some (.ref 0), some (.int a), some (.int b), some (.int r1)]) (st := []) rfl (A_X0_walk_22_1 d g7) ?_
        rintro _ _ ⟨rfl, rfl⟩
        show am_Rr _ _ (28, [some (.ref 0), some (.int a), some (.int b), some (.int r1)], [], x6) _
        refine am_Rr.go 3 (σ' := (33, [some (.ref 0), some (.int a), some (.int b), some (.int r1)], [.int b, .ref 22], x6)) rfl ?_
        refine am_Rr.call (pc := 36) (ls := [some (.ref 0), some (.int a), some (.int b), some (.int r1)]) (st := []) rfl (S_endingOn (d + 2) b x6) ?_
        rintro _ _ ⟨rfl, rfl⟩
        show am_Rr _ _ (36, [some (.ref 0), some (.int a), some (.int b), some (.int r1)], [.long (am_eo (x6.2.2.2 23) b)], x6) _
        obtain rfl := Option.some.inj hF
        exact am_Rr.ret (v := some (.long (am_eo (x6.2.2.2 23) b))) (x := x6) rfl (by trivial) ⟨rfl, rfl⟩
    · rw [if_neg h4] at hF
      refine am_Rr.go 2 (σ' := (12, [some (.ref 0), some (.int a), some (.int b), some (.int r1)], [.int r1, .ref 0], x2)) rfl ?_
      cases g10 : G_X7_refusedLong r1 x2 with
      | none => rw [g10] at hF; cases hF
      | some q_ =>
        obtain ⟨r8, x9⟩ := q_
        rw [g10] at hF
        dsimp only at hF
        refine am_Rr.call (pc := 15) (ls := [some (.ref 0), some (.int a), some (.int b), some (.int r1)]) (st := []) rfl (A_X7_refusedLong (d + 2) g10) ?_
        rintro _ _ ⟨rfl, rfl⟩
        show am_Rr _ _ (15, [some (.ref 0), some (.int a), some (.int b), some (.int r1)], [.long r8], x9) _
        obtain rfl := Option.some.inj hF
        exact am_Rr.ret (v := some (.long r8)) (x := x9) rfl (by trivial) ⟨rfl, rfl⟩
noncomputable def G_X7_likely (a : Int32) (b : Int32) (e : Int32) (x : am_X) : Option (Int64 × am_X) := (match G_X7_wrongWays a b x with | none => none | some (r1, x2) => (if (0 : Int32) ≤ r1 then (if e = 0 then (match G_X0_walk_22_1 a x2 with | none => none | some (_, x7) => (match G_X7_greatestDivisor (am_iaF (x7.2.2.2 23) 36 0 0) (am_eo (x7.2.2.2 23) b) x7 with | none => none | some (r9, x10) => (if (lg_cmp r9 0) = 0 then some ((0 : Int64), x10) else (if e = 0 then (if ¬ r9 = 0 then some (((am_eo (x7.2.2.2 23) b) / r9), x10) else none) else (if ¬ r9 = 0 then some (((am_iaF (x7.2.2.2 23) 36 0 0) / r9), x10) else none))))) else (if e = 1 then (match G_X0_walk_22_1 a x2 with | none => none | some (_, x18) => (match G_X7_greatestDivisor (am_iaF (x18.2.2.2 23) 36 0 0) (am_eo (x18.2.2.2 23) b) x18 with | none => none | some (r20, x21) => (if (lg_cmp r20 0) = 0 then some ((0 : Int64), x21) else (if e = 0 then (if ¬ r20 = 0 then some (((am_eo (x18.2.2.2 23) b) / r20), x21) else none) else (if ¬ r20 = 0 then some (((am_iaF (x18.2.2.2 23) 36 0 0) / r20), x21) else none))))) else (match G_X7_refusedLong (-2 : Int32) x2 with | none => none | some (r27, x28) => some (r27, x28)))) else (match G_X7_refusedLong r1 x2 with | none => none | some (r30, x31) => some (r30, x31))))
theorem A_X7_likely (d : Nat) {a : Int32} {b : Int32} {e : Int32} {x : am_X} {res : Int64 × am_X} (hF : G_X7_likely a b e x = some res) : am_T (d + 6) mX7_likely [.ref 0, .int a, .int b, .int e] x (fun ro y => ro = some (.long res.1) ∧ res.2 = y) := by
  refine am_T.of rfl ?_
  show am_Rr (d + 5) kX7_likely (0, [some (.ref 0), some (.int a), some (.int b), some (.int e), none, none, none, none, none, none, none], [], x) _
  unfold G_X7_likely at hF
  refine am_Rr.go 2 (σ' := (2, [some (.ref 0), some (.int a), some (.int b), some (.int e), none, none, none, none, none, none, none], [.int b, .int a], x)) rfl ?_
  cases g3 : G_X7_wrongWays a b x with
  | none => rw [g3] at hF; cases hF
  | some q_ =>
    obtain ⟨r1, x2⟩ := q_
    rw [g3] at hF
    dsimp only at hF
    refine am_Rr.call (pc := 5) (ls := [some (.ref 0), some (.int a), some (.int b), some (.int e), none, none, none, none, none, none, none]) (st := []) rfl (A_X7_wrongWays (d + 2) g3) ?_
    rintro _ _ ⟨rfl, rfl⟩
    show am_Rr _ _ (5, [some (.ref 0), some (.int a), some (.int b), some (.int e), none, none, none, none, none, none, none], [.int r1], x2) _
    refine am_Rr.go 3 (σ' := (if (0 : Int32) ≤ r1 then 19 else 12, [some (.ref 0), some (.int a), some (.int b), some (.int e), some (.int r1), none, none, none, none, none, none], [], x2)) rfl ?_
    refine am_Rr.ite (fun h4 => ?_) (fun h4 => ?_)
    · rw [if_pos h4] at hF
      refine am_Rr.go 2 (σ' := (if e = 0 then 35 else 23, [some (.ref 0), some (.int a), some (.int b), some (.int e), some (.int r1), none, none, none, none, none, none], [], x2)) rfl ?_
      refine am_Rr.ite (fun h5 => ?_) (fun h5 => ?_)
      · rw [if_pos h5] at hF
        refine am_Rr.go 5 (σ' := (44, [some (.ref 0), some (.int a), some (.int b), some (.int e), some (.int r1), none, none, none, none, none, none], [.int a, .ref 1, .ref 22], x2)) rfl ?_
        cases g8 : G_X0_walk_22_1 a x2 with
        | none => rw [g8] at hF; cases hF
        | some q_ =>
          obtain ⟨u_, x7⟩ := q_
          rw [g8] at hF
          dsimp only at hF
          refine am_Rr.call (pc := 47) (ls := [some (.ref 0), some (.int a), some (.int b), some (.int e), some (.int r1), none, none, none, none, none, none]) (st := []) rfl (A_X0_walk_22_1 d g8) ?_
          rintro _ _ ⟨rfl, rfl⟩
          show am_Rr _ _ (47, [some (.ref 0), some (.int a), some (.int b), some (.int e), some (.int r1), none, none, none, none, none, none], [], x7) _
          refine am_Rr.go 3 (σ' := (52, [some (.ref 0), some (.int a), some (.int b), some (.int e), some (.int r1), none, none, none, none, none, none], [.int b, .ref 22], x7)) rfl ?_
          refine am_Rr.call (pc := 55) (ls := [some (.ref 0), some (.int a), some (.int b), some (.int e), some (.int r1), none, none, none, none, none, none]) (st := []) rfl (S_endingOn (d + 2) b x7) ?_
          rintro _ _ ⟨rfl, rfl⟩
          show am_Rr _ _ (55, [some (.ref 0), some (.int a), some (.int b), some (.int e), some (.int r1), none, none, none, none, none, none], [.long (am_eo (x7.2.2.2 23) b)], x7) _
          refine am_Rr.go 3 (σ' := (61, [some (.ref 0), some (.int a), some (.int b), some (.int e), some (.int r1), some (.long (am_eo (x7.2.2.2 23) b)), none, none, none, none, none], [.ref 22], x7)) rfl ?_
          refine am_Rr.call (pc := 64) (ls := [some (.ref 0), some (.int a), some (.int b), some (.int e), some (.int r1), some (.long (am_eo (x7.2.2.2 23) b)), none, none, none, none, none]) (st := []) rfl (S_inAll (d + 3)  x7) ?_
          rintro _ _ ⟨rfl, rfl⟩
          show am_Rr _ _ (64, [some (.ref 0), some (.int a), some (.int b), some (.int e), some (.int r1), some (.long (am_eo (x7.2.2.2 23) b)), none, none, none, none, none], [.long (am_iaF (x7.2.2.2 23) 36 0 0)], x7) _
          refine am_Rr.go 3 (σ' := (70, [some (.ref 0), some (.int a), some (.int b), some (.int e), some (.int r1), some (.long (am_eo (x7.2.2.2 23) b)), none, some (.long (am_iaF (x7.2.2.2 23) 36 0 0)), none, none, none], [.long (am_eo (x7.2.2.2 23) b), .long (am_iaF (x7.2.2.2 23) 36 0 0)], x7)) rfl ?_
          cases g11 : G_X7_greatestDivisor (am_iaF (x7.2.2.2 23) 36 0 0) (am_eo (x7.2.2.2 23) b) x7 with
          | none => rw [g11] at hF; cases hF
          | some q_ =>
            obtain ⟨r9, x10⟩ := q_
            rw [g11] at hF
            dsimp only at hF
            refine am_Rr.call (pc := 73) (ls := [some (.ref 0), some (.int a), some (.int b), some (.int e), some (.int r1), some (.long (am_eo (x7.2.2.2 23) b)), none, some (.long (am_iaF (x7.2.2.2 23) 36 0 0)), none, none, none]) (st := []) rfl (A_X7_greatestDivisor (d + 3) g11) ?_
            rintro _ _ ⟨rfl, rfl⟩
            show am_Rr _ _ (73, [some (.ref 0), some (.int a), some (.int b), some (.int e), some (.int r1), some (.long (am_eo (x7.2.2.2 23) b)), none, some (.long (am_iaF (x7.2.2.2 23) 36 0 0)), none, none, none], [.long r9], x10) _
            refine am_Rr.go 5 (σ' := (if (lg_cmp r9 0) = 0 then 82 else 86, [some (.ref 0), some (.int a), some (.int b), some (.int e), some (.int r1), some (.long (am_eo (x7.2.2.2 23) b)), none, some (.long (am_iaF (x7.2.2.2 23) 36 0 0)), none, some (.long r9), none], [], x10)) rfl ?_
            refine am_Rr.ite (fun h12 => ?_) (fun h12 => ?_)
            · rw [if_pos h12] at hF
              refine am_Rr.go 2 (σ' := (100, [some (.ref 0), some (.int a), some (.int b), some (.int e), some (.int r1), some (.long (am_eo (x7.2.2.2 23) b)), none, some (.long (am_iaF (x7.2.2.2 23) 36 0 0)), none, some (.long r9), none], [.long 0], x10)) rfl ?_
              obtain rfl := Option.some.inj hF
              exact am_Rr.ret (v := some (.long 0)) (x := x10) rfl (by trivial) ⟨rfl, rfl⟩
            · rw [if_neg h12] at hF
              refine am_Rr.go 2 (σ' := (if e = 0 then 90 else 95, [some (.ref 0), some (.int a), some (.int b), some (.int e), some (.int r1), some (.long (am_eo (x7.2.2.2 23) b)), none, some (.long (am_iaF (x7.2.2.2 23) 36 0 0)), none, some (.long r9), none], [], x10)) rfl ?_
              refine am_Rr.ite (fun h13 => ?_) (fun h13 => ?_)
              · rw [if_pos h13] at hF
                refine am_Rr.go 3 (σ' := (99, [some (.ref 0), some (.int a), some (.int b), some (.int e), some (.int r1), some (.long (am_eo (x7.2.2.2 23) b)), none, some (.long (am_iaF (x7.2.2.2 23) 36 0 0)), none, some (.long r9), none], [.long r9, .long (am_eo (x7.2.2.2 23) b)], x10)) rfl ?_
                by_cases c14 : ¬ r9 = 0
                · rw [if_pos c14] at hF
                  refine am_Rr.chk (σ' := (100, [some (.ref 0), some (.int a), some (.int b), some (.int e), some (.int r1), some (.long (am_eo (x7.2.2.2 23) b)), none, some (.long (am_iaF (x7.2.2.2 23) 36 0 0)), none, some (.long r9), none], [.long ((am_eo (x7.2.2.2 23) b) / r9)], x10)) rfl (by exact c14) ?_
                  obtain rfl := Option.some.inj hF
                  exact am_Rr.ret (v := some (.long ((am_eo (x7.2.2.2 23) b) / r9))) (x := x10) rfl (by trivial) ⟨rfl, rfl⟩
                · rw [if_neg c14] at hF
                  cases hF
              · rw [if_neg h13] at hF
                refine am_Rr.go 2 (σ' := (99, [some (.ref 0), some (.int a), some (.int b), some (.int e), some (.int r1), some (.long (am_eo (x7.2.2.2 23) b)), none, some (.long (am_iaF (x7.2.2.2 23) 36 0 0)), none, some (.long r9), none], [.long r9, .long (am_iaF (x7.2.2.2 23) 36 0 0)], x10)) rfl ?_
                by_cases c15 : ¬ r9 = 0
                · rw [if_pos c15] at hF
                  refine am_Rr.chk (σ' := (100, [some (.ref 0), some (.int a), some (.int b), some (.int e), some (.int r1), some (.long (am_eo (x7.2.2.2 23) b)), none, some (.long (am_iaF (x7.2.2.2 23) 36 0 0)), none, some (.long r9), none], [.long ((am_iaF (x7.2.2.2 23) 36 0 0) / r9)], x10)) rfl (by exact c15) ?_
                  obtain rfl := Option.some.inj hF
                  exact am_Rr.ret (v := some (.long ((am_iaF (x7.2.2.2 23) 36 0 0) / r9))) (x := x10) rfl (by trivial) ⟨rfl, rfl⟩
                · rw [if_neg c15] at hF
                  cases hF
      · rw [if_neg h5] at hF
        refine am_Rr.go 3 (σ' := (if e = 1 then 35 else 28, [some (.ref 0), some (.int a), some (.int b), some (.int e), some (.int r1), none, none, none, none, none, none], [], x2)) rfl ?_
        refine am_Rr.ite (fun h16 => ?_) (fun h16 => ?_)
        · rw [if_pos h16] at hF
          refine am_Rr.go 5 (σ' := (44, [some (.ref 0), some (.int a), some (.int b), some (.int e), some (.int r1), none, none, none, none, none, none], [.int a, .ref 1, .ref 22], x2)) rfl ?_
          cases g19 : G_X0_walk_22_1 a x2 with
          | none => rw [g19] at hF; cases hF
          | some q_ =>
            obtain ⟨u_, x18⟩ := q_
            rw [g19] at hF
            dsimp only at hF
            refine am_Rr.call (pc := 47) (ls := [some (.ref 0), some (.int a), some (.int b), some (.int e), some (.int r1), none, none, none, none, none, none]) (st := []) rfl (A_X0_walk_22_1 d g19) ?_
            rintro _ _ ⟨rfl, rfl⟩
            show am_Rr _ _ (47, [some (.ref 0), some (.int a), some (.int b), some (.int e), some (.int r1), none, none, none, none, none, none], [], x18) _
            refine am_Rr.go 3 (σ' := (52, [some (.ref 0), some (.int a), some (.int b), some (.int e), some (.int r1), none, none, none, none, none, none], [.int b, .ref 22], x18)) rfl ?_
            refine am_Rr.call (pc := 55) (ls := [some (.ref 0), some (.int a), some (.int b), some (.int e), some (.int r1), none, none, none, none, none, none]) (st := []) rfl (S_endingOn (d + 2) b x18) ?_
            rintro _ _ ⟨rfl, rfl⟩
            show am_Rr _ _ (55, [some (.ref 0), some (.int a), some (.int b), some (.int e), some (.int r1), none, none, none, none, none, none], [.long (am_eo (x18.2.2.2 23) b)], x18) _
            refine am_Rr.go 3 (σ' := (61, [some (.ref 0), some (.int a), some (.int b), some (.int e), some (.int r1), some (.long (am_eo (x18.2.2.2 23) b)), none, none, none, none, none], [.ref 22], x18)) rfl ?_
            refine am_Rr.call (pc := 64) (ls := [some (.ref 0), some (.int a), some (.int b), some (.int e), some (.int r1), some (.long (am_eo (x18.2.2.2 23) b)), none, none, none, none, none]) (st := []) rfl (S_inAll (d + 3)  x18) ?_
            rintro _ _ ⟨rfl, rfl⟩
            show am_Rr _ _ (64, [some (.ref 0), some (.int a), some (.int b), some (.int e), some (.int r1), some (.long (am_eo (x18.2.2.2 23) b)), none, none, none, none, none], [.long (am_iaF (x18.2.2.2 23) 36 0 0)], x18) _
            refine am_Rr.go 3 (σ' := (70, [some (.ref 0), some (.int a), some (.int b), some (.int e), some (.int r1), some (.long (am_eo (x18.2.2.2 23) b)), none, some (.long (am_iaF (x18.2.2.2 23) 36 0 0)), none, none, none], [.long (am_eo (x18.2.2.2 23) b), .long (am_iaF (x18.2.2.2 23) 36 0 0)], x18)) rfl ?_
            cases g22 : G_X7_greatestDivisor (am_iaF (x18.2.2.2 23) 36 0 0) (am_eo (x18.2.2.2 23) b) x18 with
            | none => rw [g22] at hF; cases hF
            | some q_ =>
              obtain ⟨r20, x21⟩ := q_
              rw [g22] at hF
              dsimp only at hF
              refine am_Rr.call (pc := 73) (ls := [some (.ref 0), some (.int a), some (.int b), some (.int e), some (.int r1), some (.long (am_eo (x18.2.2.2 23) b)), none, some (.long (am_iaF (x18.2.2.2 23) 36 0 0)), none, none, none]) (st := []) rfl (A_X7_greatestDivisor (d + 3) g22) ?_
              rintro _ _ ⟨rfl, rfl⟩
              show am_Rr _ _ (73, [some (.ref 0), some (.int a), some (.int b), some (.int e), some (.int r1), some (.long (am_eo (x18.2.2.2 23) b)), none, some (.long (am_iaF (x18.2.2.2 23) 36 0 0)), none, none, none], [.long r20], x21) _
              refine am_Rr.go 5 (σ' := (if (lg_cmp r20 0) = 0 then 82 else 86, [some (.ref 0), some (.int a), some (.int b), some (.int e), some (.int r1), some (.long (am_eo (x18.2.2.2 23) b)), none, some (.long (am_iaF (x18.2.2.2 23) 36 0 0)), none, some (.long r20), none], [], x21)) rfl ?_
              refine am_Rr.ite (fun h23 => ?_) (fun h23 => ?_)
              · rw [if_pos h23] at hF
                refine am_Rr.go 2 (σ' := (100, [some (.ref 0), some (.int a), some (.int b), some (.int e), some (.int r1), some (.long (am_eo (x18.2.2.2 23) b)), none, some (.long (am_iaF (x18.2.2.2 23) 36 0 0)), none, some (.long r20), none], [.long 0], x21)) rfl ?_
                obtain rfl := Option.some.inj hF
                exact am_Rr.ret (v := some (.long 0)) (x := x21) rfl (by trivial) ⟨rfl, rfl⟩
              · rw [if_neg h23] at hF
                refine am_Rr.go 2 (σ' := (if e = 0 then 90 else 95, [some (.ref 0), some (.int a), some (.int b), some (.int e), some (.int r1), some (.long (am_eo (x18.2.2.2 23) b)), none, some (.long (am_iaF (x18.2.2.2 23) 36 0 0)), none, some (.long r20), none], [], x21)) rfl ?_
                refine am_Rr.ite (fun h24 => ?_) (fun h24 => ?_)
                · rw [if_pos h24] at hF
                  refine am_Rr.go 3 (σ' := (99, [some (.ref 0), some (.int a), some (.int b), some (.int e), some (.int r1), some (.long (am_eo (x18.2.2.2 23) b)), none, some (.long (am_iaF (x18.2.2.2 23) 36 0 0)), none, some (.long r20), none], [.long r20, .long (am_eo (x18.2.2.2 23) b)], x21)) rfl ?_
                  by_cases c25 : ¬ r20 = 0
                  · rw [if_pos c25] at hF
                    refine am_Rr.chk (σ' := (100, [some (.ref 0), some (.int a), some (.int b), some (.int e), some (.int r1), some (.long (am_eo (x18.2.2.2 23) b)), none, some (.long (am_iaF (x18.2.2.2 23) 36 0 0)), none, some (.long r20), none], [.long ((am_eo (x18.2.2.2 23) b) / r20)], x21)) rfl (by exact c25) ?_
                    obtain rfl := Option.some.inj hF
                    exact am_Rr.ret (v := some (.long ((am_eo (x18.2.2.2 23) b) / r20))) (x := x21) rfl (by trivial) ⟨rfl, rfl⟩
                  · rw [if_neg c25] at hF
                    cases hF
                · rw [if_neg h24] at hF
                  refine am_Rr.go 2 (σ' := (99, [some (.ref 0), some (.int a), some (.int b), some (.int e), some (.int r1), some (.long (am_eo (x18.2.2.2 23) b)), none, some (.long (am_iaF (x18.2.2.2 23) 36 0 0)), none, some (.long r20), none], [.long r20, .long (am_iaF (x18.2.2.2 23) 36 0 0)], x21)) rfl ?_
                  by_cases c26 : ¬ r20 = 0
                  · rw [if_pos c26] at hF
                    refine am_Rr.chk (σ' := (100, [some (.ref 0), some (.int a), some (.int b), some (.int e), some (.int r1), some (.long (am_eo (x18.2.2.2 23) b)), none, some (.long (am_iaF (x18.2.2.2 23) 36 0 0)), none, some (.long r20), none], [.long ((am_iaF (x18.2.2.2 23) 36 0 0) / r20)], x21)) rfl (by exact c26) ?_
                    obtain rfl := Option.some.inj hF
                    exact am_Rr.ret (v := some (.long ((am_iaF (x18.2.2.2 23) 36 0 0) / r20))) (x := x21) rfl (by trivial) ⟨rfl, rfl⟩
                  · rw [if_neg c26] at hF
                    cases hF
        · rw [if_neg h16] at hF
          refine am_Rr.go 2 (σ' := (31, [some (.ref 0), some (.int a), some (.int b), some (.int e), some (.int r1), none, none, none, none, none, none], [.int (-2), .ref 0], x2)) rfl ?_
          cases g29 : G_X7_refusedLong (-2 : Int32) x2 with
          | none => rw [g29] at hF; cases hF
          | some q_ =>
            obtain ⟨r27, x28⟩ := q_
            rw [g29] at hF
            dsimp only at hF
            refine am_Rr.call (pc := 34) (ls := [some (.ref 0), some (.int a), some (.int b), some (.int e), some (.int r1), none, none, none, none, none, none]) (st := []) rfl (A_X7_refusedLong (d + 2) g29) ?_
            rintro _ _ ⟨rfl, rfl⟩
            show am_Rr _ _ (34, [some (.ref 0), some (.int a), some (.int b), some (.int e), some (.int r1), none, none, none, none, none, none], [.long r27], x28) _
            obtain rfl := Option.some.inj hF
            exact am_Rr.ret (v := some (.long r27)) (x := x28) rfl (by trivial) ⟨rfl, rfl⟩
    · rw [if_neg h4] at hF
      refine am_Rr.go 2 (σ' := (15, [some (.ref 0), some (.int a), some (.int b), some (.int e), some (.int r1), none, none, none, none, none, none], [.int r1, .ref 0], x2)) rfl ?_
      cases g32 : G_X7_refusedLong r1 x2 with
      | none => rw [g32] at hF; cases hF
      | some q_ =>
        obtain ⟨r30, x31⟩ := q_
        rw [g32] at hF
        dsimp only at hF
        refine am_Rr.call (pc := 18) (ls := [some (.ref 0), some (.int a), some (.int b), some (.int e), some (.int r1), none, none, none, none, none, none]) (st := []) rfl (A_X7_refusedLong (d + 2) g32) ?_
        rintro _ _ ⟨rfl, rfl⟩
        show am_Rr _ _ (18, [some (.ref 0), some (.int a), some (.int b), some (.int e), some (.int r1), none, none, none, none, none, none], [.long r30], x31) _
        obtain rfl := Option.some.inj hF
        exact am_Rr.ret (v := some (.long r30)) (x := x31) rfl (by trivial) ⟨rfl, rfl⟩
