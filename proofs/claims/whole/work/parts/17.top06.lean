noncomputable def G_X7_likeliest (a : Int32) (x : am_X) : Option (Int32 × am_X) := (match G_X7_wrongWays a (0 : Int32) x with | none => none | some (r1, x2) => (if (0 : Int32) ≤ r1 then (match G_X0_walk_22_1 a x2 with | none => none | some (_, x6) => some ((am_liF (x6.2.2.2 23) 35 1 0), x6)) else (match G_X7_refused r1 x2 with | none => none | some (r8, x9) => some (r8, x9))))
theorem A_X7_likeliest (d : Nat) {a : Int32} {x : am_X} {res : Int32 × am_X} (hF : G_X7_likeliest a x = some res) : am_T (d + 6) mX7_likeliest [.ref 0, .int a] x (fun ro y => ro = some (.int res.1) ∧ res.2 = y) := by
  refine am_T.of rfl ?_
  show am_Rr (d + 5) kX7_likeliest (0, [some (.ref 0), some (.int a), none], [], x) _
  unfold G_X7_likeliest at hF
  refine am_Rr.go 2 (σ' := (2, [some (.ref 0), some (.int a), none], [.int 0, .int a], x)) rfl ?_
  cases g3 : G_X7_wrongWays a (0 : Int32) x with
  | none => rw [g3] at hF; cases hF
  | some q_ =>
    obtain ⟨r1, x2⟩ := q_
    rw [g3] at hF
    dsimp only at hF
    refine am_Rr.call (pc := 5) (ls := [some (.ref 0), some (.int a), none]) (st := []) rfl (A_X7_wrongWays (d + 2) g3) ?_
    rintro _ _ ⟨rfl, rfl⟩
    show am_Rr _ _ (5, [some (.ref 0), some (.int a), none], [.int r1], x2) _
    refine am_Rr.go 3 (σ' := (if (0 : Int32) ≤ r1 then 16 else 10, [some (.ref 0), some (.int a), some (.int r1)], [], x2)) rfl ?_
    refine am_Rr.ite (fun h4 => ?_) (fun h4 => ?_)
    · rw [if_pos h4] at hF
      refine am_Rr.go 5 (σ' := (25, [some (.ref 0), some (.int a), some (.int r1)], [.int a, .ref 1, .ref 22], x2)) rfl ?_
      cases g7 : G_X0_walk_22_1 a x2 with
      | none => rw [g7] at hF; cases hF
      | some q_ =>
        obtain ⟨u_, x6⟩ := q_
        rw [g7] at hF
        dsimp only at hF
        refine am_Rr.call (pc := 28) (ls := [some (.ref 0), some (.int a), some (.int r1)]) (st := []) rfl (A_X0_walk_22_1 d g7) ?_
        rintro _ _ ⟨rfl, rfl⟩
        show am_Rr _ _ (28, [some (.ref 0), some (.int a), some (.int r1)], [], x6) _
        refine am_Rr.go 2 (σ' := (32, [some (.ref 0), some (.int a), some (.int r1)], [.ref 22], x6)) rfl ?_
        refine am_Rr.call (pc := 35) (ls := [some (.ref 0), some (.int a), some (.int r1)]) (st := []) rfl (S_likeliestSquare (d + 1)  x6) ?_
        rintro _ _ ⟨rfl, rfl⟩
        show am_Rr _ _ (35, [some (.ref 0), some (.int a), some (.int r1)], [.int (am_liF (x6.2.2.2 23) 35 1 0)], x6) _
        obtain rfl := Option.some.inj hF
        exact am_Rr.ret (v := some (.int (am_liF (x6.2.2.2 23) 35 1 0))) (x := x6) rfl (by trivial) ⟨rfl, rfl⟩
    · rw [if_neg h4] at hF
      refine am_Rr.go 2 (σ' := (12, [some (.ref 0), some (.int a), some (.int r1)], [.int r1, .ref 0], x2)) rfl ?_
      cases g10 : G_X7_refused r1 x2 with
      | none => rw [g10] at hF; cases hF
      | some q_ =>
        obtain ⟨r8, x9⟩ := q_
        rw [g10] at hF
        dsimp only at hF
        refine am_Rr.call (pc := 15) (ls := [some (.ref 0), some (.int a), some (.int r1)]) (st := []) rfl (A_X7_refused (d + 3) g10) ?_
        rintro _ _ ⟨rfl, rfl⟩
        show am_Rr _ _ (15, [some (.ref 0), some (.int a), some (.int r1)], [.int r8], x9) _
        obtain rfl := Option.some.inj hF
        exact am_Rr.ret (v := some (.int r8)) (x := x9) rfl (by trivial) ⟨rfl, rfl⟩
noncomputable def L_X7_afterTurning_35 : Nat → Int32 → Int64 → Int64 → Int32 → Int32 → am_X → Option (Int64 × am_X)
  | 0, _, _, _, _, _, _ => none
  | n + 1, v2, v3, v5, v7, v8, x => (if v2 ≤ v8 then some (v5, x) else (if (lg_cmp (v5 &&& v3) 0) = 0 then some (v5, x) else (if (lg_cmp ((am_mv v5 v7) &&& (am_open (x.2.2.2 2))) 0) = 0 then L_X7_afterTurning_35 n v2 v3 v5 ((v7 + 1) - (v7 + 1) / 4 * 4) (v8 + 1) x else L_X7_afterTurning_35 n v2 v3 ((am_mv v5 v7) &&& (am_open (x.2.2.2 2))) v7 (v8 + 1) x)))
theorem L_X7_afterTurning_35_ok (d : Nat) (res : Int64 × am_X) : ∀ (n : Nat) (v2 : Int32) (v3 : Int64) (v5 : Int64) (v7 : Int32) (v8 : Int32) (x : am_X), L_X7_afterTurning_35 n v2 v3 v5 v7 v8 x = some res → am_Rr (d + 3) kX7_afterTurning (35, [some (.ref 0), none, some (.int v2), some (.long v3), none, some (.long v5), none, some (.int v7), some (.int v8), none, none], [], x) (fun ro y => ro = some (.long res.1) ∧ res.2 = y) := by
  intro n
  induction n with
  | zero =>
    intro v2 v3 v5 v7 v8 x hF
    cases hF
  | succ n ih =>
    intro v2 v3 v5 v7 v8 x hF
    rw [L_X7_afterTurning_35] at hF
    refine am_Rr.go 3 (σ' := (if v2 ≤ v8 then 95 else 41, [some (.ref 0), none, some (.int v2), some (.long v3), none, some (.long v5), none, some (.int v7), some (.int v8), none, none], [], x)) rfl ?_
    refine am_Rr.ite (fun h1 => ?_) (fun h1 => ?_)
    · rw [if_pos h1] at hF
      refine am_Rr.go 1 (σ' := (97, [some (.ref 0), none, some (.int v2), some (.long v3), none, some (.long v5), none, some (.int v7), some (.int v8), none, none], [.long v5], x)) rfl ?_
      obtain rfl := Option.some.inj hF
      exact am_Rr.ret (v := some (.long v5)) (x := x) rfl (by trivial) ⟨rfl, rfl⟩
    · rw [if_neg h1] at hF
      refine am_Rr.go 6 (σ' := (if (lg_cmp (v5 &&& v3) 0) = 0 then 95 else 50, [some (.ref 0), none, some (.int v2), some (.long v3), none, some (.long v5), none, some (.int v7), some (.int v8), none, none], [], x)) rfl ?_
      refine am_Rr.ite (fun h2 => ?_) (fun h2 => ?_)
      · rw [if_pos h2] at hF
        refine am_Rr.go 1 (σ' := (97, [some (.ref 0), none, some (.int v2), some (.long v3), none, some (.long v5), none, some (.int v7), some (.int v8), none, none], [.long v5], x)) rfl ?_
        obtain rfl := Option.some.inj hF
        exact am_Rr.ret (v := some (.long v5)) (x := x) rfl (by trivial) ⟨rfl, rfl⟩
      · rw [if_neg h2] at hF
        refine am_Rr.go 2 (σ' := (54, [some (.ref 0), none, some (.int v2), some (.long v3), none, some (.long v5), none, some (.int v7), some (.int v8), none, none], [.int v7, .long v5], x)) rfl ?_
        refine am_Rr.call (pc := 57) (ls := [some (.ref 0), none, some (.int v2), some (.long v3), none, some (.long v5), none, some (.int v7), some (.int v8), none, none]) (st := []) rfl (S_moved (d + 1) v5 v7 x) ?_
        rintro _ _ ⟨rfl, rfl⟩
        show am_Rr _ _ (57, [some (.ref 0), none, some (.int v2), some (.long v3), none, some (.long v5), none, some (.int v7), some (.int v8), none, none], [.long (am_mv v5 v7)], x) _
        refine am_Rr.go 2 (σ' := (61, [some (.ref 0), none, some (.int v2), some (.long v3), none, some (.long v5), none, some (.int v7), some (.int v8), none, none], [.ref 1, .long (am_mv v5 v7)], x)) rfl ?_
        refine am_Rr.call (pc := 64) (ls := [some (.ref 0), none, some (.int v2), some (.long v3), none, some (.long v5), none, some (.int v7), some (.int v8), none, none]) (st := [.long (am_mv v5 v7)]) rfl (S_open_1 d  x) ?_
        rintro _ _ ⟨rfl, rfl⟩
        show am_Rr _ _ (64, [some (.ref 0), none, some (.int v2), some (.long v3), none, some (.long v5), none, some (.int v7), some (.int v8), none, none], [.long (am_open (x.2.2.2 2)), .long (am_mv v5 v7)], x) _
        refine am_Rr.go 6 (σ' := (if (lg_cmp ((am_mv v5 v7) &&& (am_open (x.2.2.2 2))) 0) = 0 then 81 else 74, [some (.ref 0), none, some (.int v2), some (.long v3), none, some (.long v5), none, some (.int v7), some (.int v8), some (.long ((am_mv v5 v7) &&& (am_open (x.2.2.2 2)))), none], [], x)) rfl ?_
        refine am_Rr.ite (fun h3 => ?_) (fun h3 => ?_)
        · rw [if_pos h3] at hF
          refine am_Rr.go 4 (σ' := (86, [some (.ref 0), none, some (.int v2), some (.long v3), none, some (.long v5), none, some (.int v7), some (.int v8), some (.long ((am_mv v5 v7) &&& (am_open (x.2.2.2 2)))), none], [.int 4, .int (v7 + 1)], x)) rfl ?_
          refine am_Rr.chk (σ' := (87, [some (.ref 0), none, some (.int v2), some (.long v3), none, some (.long v5), none, some (.int v7), some (.int v8), some (.long ((am_mv v5 v7) &&& (am_open (x.2.2.2 2)))), none], [.int ((v7 + 1) - (v7 + 1) / 4 * 4)], x)) rfl (by decide) ?_
          refine am_Rr.go 3 (σ' := (35, [some (.ref 0), none, some (.int v2), some (.long v3), none, some (.long v5), none, some (.int ((v7 + 1) - (v7 + 1) / 4 * 4)), some (.int (v8 + 1)), some (.long ((am_mv v5 v7) &&& (am_open (x.2.2.2 2)))), none], [], x)) rfl ?_
          refine am_Rr.weak (ls0 := [some (.ref 0), none, some (.int v2), some (.long v3), none, some (.long v5), none, some (.int ((v7 + 1) - (v7 + 1) / 4 * 4)), some (.int (v8 + 1)), none, none]) (by simp [am_le]) ?_
          exact ih _ _ _ _ _ _ hF
        · rw [if_neg h3] at hF
          refine am_Rr.go 5 (σ' := (35, [some (.ref 0), none, some (.int v2), some (.long v3), none, some (.long ((am_mv v5 v7) &&& (am_open (x.2.2.2 2)))), none, some (.int v7), some (.int (v8 + 1)), some (.long ((am_mv v5 v7) &&& (am_open (x.2.2.2 2)))), none], [], x)) rfl ?_
          refine am_Rr.weak (ls0 := [some (.ref 0), none, some (.int v2), some (.long v3), none, some (.long ((am_mv v5 v7) &&& (am_open (x.2.2.2 2)))), none, some (.int v7), some (.int (v8 + 1)), none, none]) (by simp [am_le]) ?_
          exact ih _ _ _ _ _ _ hF
noncomputable def G_X7_afterTurning (a : Int32) (b : Int32) (x : am_X) : Option (Int64 × am_X) := L_X7_afterTurning_35 1000 b ((68719476735 : Int64) &&& ((am_sqo (x.2.2.2 2) (5 : Int32)) ^^^ (-1))) (am_bit (x.1 36)) a (0 : Int32) x
theorem A_X7_afterTurning (d : Nat) {a : Int32} {b : Int32} {x : am_X} {res : Int64 × am_X} (hF : G_X7_afterTurning a b x = some res) : am_T (d + 4) mX7_afterTurning [.ref 0, .int a, .int b] x (fun ro y => ro = some (.long res.1) ∧ res.2 = y) := by
  refine am_T.of rfl ?_
  show am_Rr (d + 3) kX7_afterTurning (0, [some (.ref 0), some (.int a), some (.int b), none, none, none, none, none, none, none, none], [], x) _
  unfold G_X7_afterTurning at hF
  refine am_Rr.go 4 (σ' := (8, [some (.ref 0), some (.int a), some (.int b), none, none, none, none, none, none, none, none], [.int 5, .ref 1, .long 68719476735], x)) rfl ?_
  refine am_Rr.call (pc := 11) (ls := [some (.ref 0), some (.int a), some (.int b), none, none, none, none, none, none, none, none]) (st := [.long 68719476735]) rfl (S_squaresOf_1 (d + 1) (5 : Int32) x) ?_
  rintro _ _ ⟨rfl, rfl⟩
  show am_Rr _ _ (11, [some (.ref 0), some (.int a), some (.int b), none, none, none, none, none, none, none, none], [.long (am_sqo (x.2.2.2 2) (5 : Int32)), .long 68719476735], x) _
  refine am_Rr.go 7 (σ' := (24, [some (.ref 0), some (.int a), some (.int b), some (.long ((68719476735 : Int64) &&& ((am_sqo (x.2.2.2 2) (5 : Int32)) ^^^ (-1)))), none, none, none, none, none, none, none], [.int (x.1 36)], x)) rfl ?_
  refine am_Rr.call (pc := 27) (ls := [some (.ref 0), some (.int a), some (.int b), some (.long ((68719476735 : Int64) &&& ((am_sqo (x.2.2.2 2) (5 : Int32)) ^^^ (-1)))), none, none, none, none, none, none, none]) (st := []) rfl (S_bit d (x.1 36) x) ?_
  rintro _ _ ⟨rfl, rfl⟩
  show am_Rr _ _ (27, [some (.ref 0), some (.int a), some (.int b), some (.long ((68719476735 : Int64) &&& ((am_sqo (x.2.2.2 2) (5 : Int32)) ^^^ (-1)))), none, none, none, none, none, none, none], [.long (am_bit (x.1 36))], x) _
  refine am_Rr.go 5 (σ' := (35, [some (.ref 0), some (.int a), some (.int b), some (.long ((68719476735 : Int64) &&& ((am_sqo (x.2.2.2 2) (5 : Int32)) ^^^ (-1)))), none, some (.long (am_bit (x.1 36))), none, some (.int a), some (.int 0), none, none], [], x)) rfl ?_
  refine am_Rr.weak (ls0 := [some (.ref 0), none, some (.int b), some (.long ((68719476735 : Int64) &&& ((am_sqo (x.2.2.2 2) (5 : Int32)) ^^^ (-1)))), none, some (.long (am_bit (x.1 36))), none, some (.int a), some (.int 0), none, none]) (by simp [am_le]) ?_
  exact L_X7_afterTurning_35_ok d res _ _ _ _ _ _ _ hF
noncomputable def G_X7_turning (a : Int32) (b : Int32) (x : am_X) : Option (Int32 × am_X) := (if a < 0 then (match G_X7_refused (-2 : Int32) x with | none => none | some (r2, x3) => some (r2, x3)) else (if a < 4 then (if (0 : Int32) ≤ b then (if b ≤ 99 then (match G_X7_afterTurning a b x with | none => none | some (r8, x9) => some ((am_least r8), x9)) else (match G_X7_refused (-6 : Int32) x with | none => none | some (r11, x12) => some (r11, x12))) else (match G_X7_refused (-4 : Int32) x with | none => none | some (r14, x15) => some (r14, x15))) else (match G_X7_refused (-2 : Int32) x with | none => none | some (r17, x18) => some (r17, x18))))
theorem A_X7_turning (d : Nat) {a : Int32} {b : Int32} {x : am_X} {res : Int32 × am_X} (hF : G_X7_turning a b x = some res) : am_T (d + 5) mX7_turning [.ref 0, .int a, .int b] x (fun ro y => ro = some (.int res.1) ∧ res.2 = y) := by
  refine am_T.of rfl ?_
  show am_Rr (d + 4) kX7_turning (0, [some (.ref 0), some (.int a), some (.int b)], [], x) _
  unfold G_X7_turning at hF
  refine am_Rr.go 2 (σ' := (if a < 0 then 9 else 4, [some (.ref 0), some (.int a), some (.int b)], [], x)) rfl ?_
  refine am_Rr.ite (fun h1 => ?_) (fun h1 => ?_)
  · rw [if_pos h1] at hF
    refine am_Rr.go 2 (σ' := (12, [some (.ref 0), some (.int a), some (.int b)], [.int (-2), .ref 0], x)) rfl ?_
    cases g4 : G_X7_refused (-2 : Int32) x with
    | none => rw [g4] at hF; cases hF
    | some q_ =>
      obtain ⟨r2, x3⟩ := q_
      rw [g4] at hF
      dsimp only at hF
      refine am_Rr.call (pc := 15) (ls := [some (.ref 0), some (.int a), some (.int b)]) (st := []) rfl (A_X7_refused (d + 2) g4) ?_
      rintro _ _ ⟨rfl, rfl⟩
      show am_Rr _ _ (15, [some (.ref 0), some (.int a), some (.int b)], [.int r2], x3) _
      obtain rfl := Option.some.inj hF
      exact am_Rr.ret (v := some (.int r2)) (x := x3) rfl (by trivial) ⟨rfl, rfl⟩
  · rw [if_neg h1] at hF
    refine am_Rr.go 3 (σ' := (if a < 4 then 16 else 9, [some (.ref 0), some (.int a), some (.int b)], [], x)) rfl ?_
    refine am_Rr.ite (fun h5 => ?_) (fun h5 => ?_)
    · rw [if_pos h5] at hF
      refine am_Rr.go 2 (σ' := (if (0 : Int32) ≤ b then 27 else 20, [some (.ref 0), some (.int a), some (.int b)], [], x)) rfl ?_
      refine am_Rr.ite (fun h6 => ?_) (fun h6 => ?_)
      · rw [if_pos h6] at hF
        refine am_Rr.go 3 (σ' := (if b ≤ 99 then 40 else 33, [some (.ref 0), some (.int a), some (.int b)], [], x)) rfl ?_
        refine am_Rr.ite (fun h7 => ?_) (fun h7 => ?_)
        · rw [if_pos h7] at hF
          refine am_Rr.go 3 (σ' := (43, [some (.ref 0), some (.int a), some (.int b)], [.int b, .int a, .ref 0], x)) rfl ?_
          cases g10 : G_X7_afterTurning a b x with
          | none => rw [g10] at hF; cases hF
          | some q_ =>
            obtain ⟨r8, x9⟩ := q_
            rw [g10] at hF
            dsimp only at hF
            refine am_Rr.call (pc := 46) (ls := [some (.ref 0), some (.int a), some (.int b)]) (st := []) rfl (A_X7_afterTurning d g10) ?_
            rintro _ _ ⟨rfl, rfl⟩
            show am_Rr _ _ (46, [some (.ref 0), some (.int a), some (.int b)], [.long r8], x9) _
            refine am_Rr.call (pc := 49) (ls := [some (.ref 0), some (.int a), some (.int b)]) (st := []) rfl (S_least (d + 1) r8 x9) ?_
            rintro _ _ ⟨rfl, rfl⟩
            show am_Rr _ _ (49, [some (.ref 0), some (.int a), some (.int b)], [.int (am_least r8)], x9) _
            obtain rfl := Option.some.inj hF
            exact am_Rr.ret (v := some (.int (am_least r8))) (x := x9) rfl (by trivial) ⟨rfl, rfl⟩
        · rw [if_neg h7] at hF
          refine am_Rr.go 2 (σ' := (36, [some (.ref 0), some (.int a), some (.int b)], [.int (-6), .ref 0], x)) rfl ?_
          cases g13 : G_X7_refused (-6 : Int32) x with
          | none => rw [g13] at hF; cases hF
          | some q_ =>
            obtain ⟨r11, x12⟩ := q_
            rw [g13] at hF
            dsimp only at hF
            refine am_Rr.call (pc := 39) (ls := [some (.ref 0), some (.int a), some (.int b)]) (st := []) rfl (A_X7_refused (d + 2) g13) ?_
            rintro _ _ ⟨rfl, rfl⟩
            show am_Rr _ _ (39, [some (.ref 0), some (.int a), some (.int b)], [.int r11], x12) _
            obtain rfl := Option.some.inj hF
            exact am_Rr.ret (v := some (.int r11)) (x := x12) rfl (by trivial) ⟨rfl, rfl⟩
      · rw [if_neg h6] at hF
        refine am_Rr.go 2 (σ' := (23, [some (.ref 0), some (.int a), some (.int b)], [.int (-4), .ref 0], x)) rfl ?_
        cases g16 : G_X7_refused (-4 : Int32) x with
        | none => rw [g16] at hF; cases hF
        | some q_ =>
          obtain ⟨r14, x15⟩ := q_
          rw [g16] at hF
          dsimp only at hF
          refine am_Rr.call (pc := 26) (ls := [some (.ref 0), some (.int a), some (.int b)]) (st := []) rfl (A_X7_refused (d + 2) g16) ?_
          rintro _ _ ⟨rfl, rfl⟩
          show am_Rr _ _ (26, [some (.ref 0), some (.int a), some (.int b)], [.int r14], x15) _
          obtain rfl := Option.some.inj hF
          exact am_Rr.ret (v := some (.int r14)) (x := x15) rfl (by trivial) ⟨rfl, rfl⟩
    · rw [if_neg h5] at hF
      refine am_Rr.go 2 (σ' := (12, [some (.ref 0), some (.int a), some (.int b)], [.int (-2), .ref 0], x)) rfl ?_
      cases g19 : G_X7_refused (-2 : Int32) x with
      | none => rw [g19] at hF; cases hF
      | some q_ =>
        obtain ⟨r17, x18⟩ := q_
        rw [g19] at hF
        dsimp only at hF
        refine am_Rr.call (pc := 15) (ls := [some (.ref 0), some (.int a), some (.int b)]) (st := []) rfl (A_X7_refused (d + 2) g19) ?_
        rintro _ _ ⟨rfl, rfl⟩
        show am_Rr _ _ (15, [some (.ref 0), some (.int a), some (.int b)], [.int r17], x18) _
        obtain rfl := Option.some.inj hF
        exact am_Rr.ret (v := some (.int r17)) (x := x18) rfl (by trivial) ⟨rfl, rfl⟩
noncomputable def L_X7_firstWrongPair_7 : Nat → Int32 → Int32 → Int32 → am_X → Option (Int32 × am_X)
  | 0, _, _, _, _ => none
  | n + 1, v2, v3, v4, x => (if (x.1 513) ≤ (((2 : Int32) * v4) + 1) then some ((-9 : Int32), x) else (match G_X6_stepsTo_18 (am_bit (am_nat16 (x.1 513) (x.2.2.1 17) ((2 : Int32) * v4))) (am_spx x v2 (0 : Int64)) with | none => none | some (r2, x3) => (if r2 < 0 then some (v4, x3) else (if (r2 * (x3.1 37)) ≤ ((am_nat16 (x.1 513) (x.2.2.1 17) (((2 : Int32) * v4) + 1)) - v3) then L_X7_firstWrongPair_7 n (am_nat16 (x.1 513) (x.2.2.1 17) ((2 : Int32) * v4)) (am_nat16 (x.1 513) (x.2.2.1 17) (((2 : Int32) * v4) + 1)) (v4 + 1) x3 else some (v4, x3)))))
theorem L_X7_firstWrongPair_7_ok (d : Nat) (res : Int32 × am_X) : ∀ (n : Nat) (v2 : Int32) (v3 : Int32) (v4 : Int32) (x : am_X), L_X7_firstWrongPair_7 n v2 v3 v4 x = some res → am_Rr (d + 4) kX7_firstWrongPair (7, [some (.ref 0), none, some (.int v2), some (.int v3), some (.int v4), none, none, none], [], x) (fun ro y => ro = some (.int res.1) ∧ res.2 = y) := by
  intro n
  induction n with
  | zero =>
    intro v2 v3 v4 x hF
    cases hF
  | succ n ih =>
    intro v2 v3 v4 x hF
    rw [L_X7_firstWrongPair_7] at hF
    refine am_Rr.go 9 (σ' := (if (x.1 513) ≤ (((2 : Int32) * v4) + 1) then 115 else 23, [some (.ref 0), none, some (.int v2), some (.int v3), some (.int v4), none, none, none], [], x)) rfl ?_
    refine am_Rr.ite (fun h1 => ?_) (fun h1 => ?_)
    · rw [if_pos h1] at hF
      refine am_Rr.go 1 (σ' := (117, [some (.ref 0), none, some (.int v2), some (.int v3), some (.int v4), none, none, none], [.int (-9)], x)) rfl ?_
      obtain rfl := Option.some.inj hF
      exact am_Rr.ret (v := some (.int (-9))) (x := x) rfl (by trivial) ⟨rfl, rfl⟩
    · rw [if_neg h1] at hF
      refine am_Rr.go 5 (σ' := (31, [some (.ref 0), none, some (.int v2), some (.int v3), some (.int v4), none, none, none], [.int ((2 : Int32) * v4), .ref 16], x)) rfl ?_
      refine am_Rr.call (pc := 34) (ls := [some (.ref 0), none, some (.int v2), some (.int v3), some (.int v4), none, none, none]) (st := []) rfl (S_at_16 (d + 2) ((2 : Int32) * v4) x) ?_
      rintro _ _ ⟨rfl, rfl⟩
      show am_Rr _ _ (34, [some (.ref 0), none, some (.int v2), some (.int v3), some (.int v4), none, none, none], [.int (am_nat16 (x.1 513) (x.2.2.1 17) ((2 : Int32) * v4))], x) _
      refine am_Rr.go 8 (σ' := (46, [some (.ref 0), none, some (.int v2), some (.int v3), some (.int v4), some (.int (am_nat16 (x.1 513) (x.2.2.1 17) ((2 : Int32) * v4))), none, none], [.int (((2 : Int32) * v4) + 1), .ref 16], x)) rfl ?_
      refine am_Rr.call (pc := 49) (ls := [some (.ref 0), none, some (.int v2), some (.int v3), some (.int v4), some (.int (am_nat16 (x.1 513) (x.2.2.1 17) ((2 : Int32) * v4))), none, none]) (st := []) rfl (S_at_16 (d + 2) (((2 : Int32) * v4) + 1) x) ?_
      rintro _ _ ⟨rfl, rfl⟩
      show am_Rr _ _ (49, [some (.ref 0), none, some (.int v2), some (.int v3), some (.int v4), some (.int (am_nat16 (x.1 513) (x.2.2.1 17) ((2 : Int32) * v4))), none, none], [.int (am_nat16 (x.1 513) (x.2.2.1 17) (((2 : Int32) * v4) + 1))], x) _
      refine am_Rr.go 7 (σ' := (61, [some (.ref 0), none, some (.int v2), some (.int v3), some (.int v4), some (.int (am_nat16 (x.1 513) (x.2.2.1 17) ((2 : Int32) * v4))), some (.int (am_nat16 (x.1 513) (x.2.2.1 17) (((2 : Int32) * v4) + 1))), none], [.long 0, .int v2, .ref 1, .ref 18], x)) rfl ?_
      refine am_Rr.call (pc := 64) (ls := [some (.ref 0), none, some (.int v2), some (.int v3), some (.int v4), some (.int (am_nat16 (x.1 513) (x.2.2.1 17) ((2 : Int32) * v4))), some (.int (am_nat16 (x.1 513) (x.2.2.1 17) (((2 : Int32) * v4) + 1))), none]) (st := []) rfl (S_spread d v2 (0 : Int64) x) ?_
      rintro _ _ ⟨rfl, rfl⟩
      show am_Rr _ _ (64, [some (.ref 0), none, some (.int v2), some (.int v3), some (.int v4), some (.int (am_nat16 (x.1 513) (x.2.2.1 17) ((2 : Int32) * v4))), some (.int (am_nat16 (x.1 513) (x.2.2.1 17) (((2 : Int32) * v4) + 1))), none], [], (am_spx x v2 (0 : Int64))) _
      refine am_Rr.go 3 (σ' := (70, [some (.ref 0), none, some (.int v2), some (.int v3), some (.int v4), some (.int (am_nat16 (x.1 513) (x.2.2.1 17) ((2 : Int32) * v4))), some (.int (am_nat16 (x.1 513) (x.2.2.1 17) (((2 : Int32) * v4) + 1))), none], [.int (am_nat16 (x.1 513) (x.2.2.1 17) ((2 : Int32) * v4)), .ref 18], (am_spx x v2 (0 : Int64)))) rfl ?_
      refine am_Rr.call (pc := 73) (ls := [some (.ref 0), none, some (.int v2), some (.int v3), some (.int v4), some (.int (am_nat16 (x.1 513) (x.2.2.1 17) ((2 : Int32) * v4))), some (.int (am_nat16 (x.1 513) (x.2.2.1 17) (((2 : Int32) * v4) + 1))), none]) (st := [.ref 18]) rfl (S_bit (d + 1) (am_nat16 (x.1 513) (x.2.2.1 17) ((2 : Int32) * v4)) (am_spx x v2 (0 : Int64))) ?_
      rintro _ _ ⟨rfl, rfl⟩
      show am_Rr _ _ (73, [some (.ref 0), none, some (.int v2), some (.int v3), some (.int v4), some (.int (am_nat16 (x.1 513) (x.2.2.1 17) ((2 : Int32) * v4))), some (.int (am_nat16 (x.1 513) (x.2.2.1 17) (((2 : Int32) * v4) + 1))), none], [.long (am_bit (am_nat16 (x.1 513) (x.2.2.1 17) ((2 : Int32) * v4))), .ref 18], (am_spx x v2 (0 : Int64))) _
      cases g4 : G_X6_stepsTo_18 (am_bit (am_nat16 (x.1 513) (x.2.2.1 17) ((2 : Int32) * v4))) (am_spx x v2 (0 : Int64)) with
      | none => rw [g4] at hF; cases hF
      | some q_ =>
        obtain ⟨r2, x3⟩ := q_
        rw [g4] at hF
        dsimp only at hF
        refine am_Rr.call (pc := 76) (ls := [some (.ref 0), none, some (.int v2), some (.int v3), some (.int v4), some (.int (am_nat16 (x.1 513) (x.2.2.1 17) ((2 : Int32) * v4))), some (.int (am_nat16 (x.1 513) (x.2.2.1 17) (((2 : Int32) * v4) + 1))), none]) (st := []) rfl (A_X6_stepsTo_18 (d + 1) g4) ?_
        rintro _ _ ⟨rfl, rfl⟩
        show am_Rr _ _ (76, [some (.ref 0), none, some (.int v2), some (.int v3), some (.int v4), some (.int (am_nat16 (x.1 513) (x.2.2.1 17) ((2 : Int32) * v4))), some (.int (am_nat16 (x.1 513) (x.2.2.1 17) (((2 : Int32) * v4) + 1))), none], [.int r2], x3) _
        refine am_Rr.go 3 (σ' := (if r2 < 0 then 100 else 83, [some (.ref 0), none, some (.int v2), some (.int v3), some (.int v4), some (.int (am_nat16 (x.1 513) (x.2.2.1 17) ((2 : Int32) * v4))), some (.int (am_nat16 (x.1 513) (x.2.2.1 17) (((2 : Int32) * v4) + 1))), some (.int r2)], [], x3)) rfl ?_
        refine am_Rr.ite (fun h5 => ?_) (fun h5 => ?_)
        · rw [if_pos h5] at hF
          refine am_Rr.go 1 (σ' := (102, [some (.ref 0), none, some (.int v2), some (.int v3), some (.int v4), some (.int (am_nat16 (x.1 513) (x.2.2.1 17) ((2 : Int32) * v4))), some (.int (am_nat16 (x.1 513) (x.2.2.1 17) (((2 : Int32) * v4) + 1))), some (.int r2)], [.int v4], x3)) rfl ?_
          obtain rfl := Option.some.inj hF
          exact am_Rr.ret (v := some (.int v4)) (x := x3) rfl (by trivial) ⟨rfl, rfl⟩
        · rw [if_neg h5] at hF
          refine am_Rr.go 9 (σ' := (if (r2 * (x3.1 37)) ≤ ((am_nat16 (x.1 513) (x.2.2.1 17) (((2 : Int32) * v4) + 1)) - v3) then 103 else 100, [some (.ref 0), none, some (.int v2), some (.int v3), some (.int v4), some (.int (am_nat16 (x.1 513) (x.2.2.1 17) ((2 : Int32) * v4))), some (.int (am_nat16 (x.1 513) (x.2.2.1 17) (((2 : Int32) * v4) + 1))), some (.int r2)], [], x3)) rfl ?_
          refine am_Rr.ite (fun h6 => ?_) (fun h6 => ?_)
          · rw [if_pos h6] at hF
            refine am_Rr.go 6 (σ' := (7, [some (.ref 0), none, some (.int (am_nat16 (x.1 513) (x.2.2.1 17) ((2 : Int32) * v4))), some (.int (am_nat16 (x.1 513) (x.2.2.1 17) (((2 : Int32) * v4) + 1))), some (.int (v4 + 1)), some (.int (am_nat16 (x.1 513) (x.2.2.1 17) ((2 : Int32) * v4))), some (.int (am_nat16 (x.1 513) (x.2.2.1 17) (((2 : Int32) * v4) + 1))), some (.int r2)], [], x3)) rfl ?_
            refine am_Rr.weak (ls0 := [some (.ref 0), none, some (.int (am_nat16 (x.1 513) (x.2.2.1 17) ((2 : Int32) * v4))), some (.int (am_nat16 (x.1 513) (x.2.2.1 17) (((2 : Int32) * v4) + 1))), some (.int (v4 + 1)), none, none, none]) (by simp [am_le]) ?_
            exact ih _ _ _ _ hF
          · rw [if_neg h6] at hF
            refine am_Rr.go 1 (σ' := (102, [some (.ref 0), none, some (.int v2), some (.int v3), some (.int v4), some (.int (am_nat16 (x.1 513) (x.2.2.1 17) ((2 : Int32) * v4))), some (.int (am_nat16 (x.1 513) (x.2.2.1 17) (((2 : Int32) * v4) + 1))), some (.int r2)], [.int v4], x3)) rfl ?_
            obtain rfl := Option.some.inj hF
            exact am_Rr.ret (v := some (.int v4)) (x := x3) rfl (by trivial) ⟨rfl, rfl⟩
noncomputable def G_X7_firstWrongPair (a : Int32) (x : am_X) : Option (Int32 × am_X) := L_X7_firstWrongPair_7 1000 a (0 : Int32) (0 : Int32) x
theorem A_X7_firstWrongPair (d : Nat) {a : Int32} {x : am_X} {res : Int32 × am_X} (hF : G_X7_firstWrongPair a x = some res) : am_T (d + 5) mX7_firstWrongPair [.ref 0, .int a] x (fun ro y => ro = some (.int res.1) ∧ res.2 = y) := by
  refine am_T.of rfl ?_
  show am_Rr (d + 4) kX7_firstWrongPair (0, [some (.ref 0), some (.int a), none, none, none, none, none, none], [], x) _
  unfold G_X7_firstWrongPair at hF
  refine am_Rr.go 6 (σ' := (7, [some (.ref 0), some (.int a), some (.int a), some (.int 0), some (.int 0), none, none, none], [], x)) rfl ?_
  refine am_Rr.weak (ls0 := [some (.ref 0), none, some (.int a), some (.int 0), some (.int 0), none, none, none]) (by simp [am_le]) ?_
  exact L_X7_firstWrongPair_7_ok d res _ _ _ _ _ hF
noncomputable def L_X7_homesOfTraces_4 : Nat → Int64 → Int32 → am_X → Option (Int64 × am_X)
  | 0, _, _, _ => none
  | n + 1, v1, v3, x => (if (36 : Int32) ≤ v3 then some (v1, x) else (if am_hasb (am_open (x.2.2.2 2)) v3 then (match G_X7_firstWrongPair v3 x with | none => none | some (r3, x4) => (if (0 : Int32) ≤ r3 then L_X7_homesOfTraces_4 n v1 (v3 + 1) x4 else L_X7_homesOfTraces_4 n (v1 ||| (am_bit v3)) (v3 + 1) x4)) else L_X7_homesOfTraces_4 n v1 (v3 + 1) x))
theorem L_X7_homesOfTraces_4_ok (d : Nat) (res : Int64 × am_X) : ∀ (n : Nat) (v1 : Int64) (v3 : Int32) (x : am_X), L_X7_homesOfTraces_4 n v1 v3 x = some res → am_Rr (d + 5) kX7_homesOfTraces (4, [some (.ref 0), some (.long v1), none, some (.int v3)], [], x) (fun ro y => ro = some (.long res.1) ∧ res.2 = y) := by
  intro n
  induction n with
  | zero =>
    intro v1 v3 x hF
    cases hF
  | succ n ih =>
    intro v1 v3 x hF
    rw [L_X7_homesOfTraces_4] at hF
    refine am_Rr.go 3 (σ' := (if (36 : Int32) ≤ v3 then 45 else 10, [some (.ref 0), some (.long v1), none, some (.int v3)], [], x)) rfl ?_
    refine am_Rr.ite (fun h1 => ?_) (fun h1 => ?_)
    · rw [if_pos h1] at hF
      refine am_Rr.go 1 (σ' := (46, [some (.ref 0), some (.long v1), none, some (.int v3)], [.long v1], x)) rfl ?_
      obtain rfl := Option.some.inj hF
      exact am_Rr.ret (v := some (.long v1)) (x := x) rfl (by trivial) ⟨rfl, rfl⟩
    · rw [if_neg h1] at hF
      refine am_Rr.go 2 (σ' := (14, [some (.ref 0), some (.long v1), none, some (.int v3)], [.ref 1], x)) rfl ?_
      refine am_Rr.call (pc := 17) (ls := [some (.ref 0), some (.long v1), none, some (.int v3)]) (st := []) rfl (S_open_1 (d + 2)  x) ?_
      rintro _ _ ⟨rfl, rfl⟩
      show am_Rr _ _ (17, [some (.ref 0), some (.long v1), none, some (.int v3)], [.long (am_open (x.2.2.2 2))], x) _
      refine am_Rr.go 1 (σ' := (18, [some (.ref 0), some (.long v1), none, some (.int v3)], [.int v3, .long (am_open (x.2.2.2 2))], x)) rfl ?_
      refine am_Rr.call (pc := 21) (ls := [some (.ref 0), some (.long v1), none, some (.int v3)]) (st := []) rfl (S_has (d + 1) (am_open (x.2.2.2 2)) v3 x) ?_
      rintro _ _ ⟨rfl, (⟨rfl, b2⟩ | ⟨rfl, b2⟩)⟩
      · rw [if_pos b2] at hF
        show am_Rr _ _ (21, [some (.ref 0), some (.long v1), none, some (.int v3)], [.int 1], x) _
        refine am_Rr.go 3 (σ' := (26, [some (.ref 0), some (.long v1), none, some (.int v3)], [.int v3, .ref 0], x)) rfl ?_
        cases g5 : G_X7_firstWrongPair v3 x with
        | none => rw [g5] at hF; cases hF
        | some q_ =>
          obtain ⟨r3, x4⟩ := q_
          rw [g5] at hF
          dsimp only at hF
          refine am_Rr.call (pc := 29) (ls := [some (.ref 0), some (.long v1), none, some (.int v3)]) (st := []) rfl (A_X7_firstWrongPair d g5) ?_
          rintro _ _ ⟨rfl, rfl⟩
          show am_Rr _ _ (29, [some (.ref 0), some (.long v1), none, some (.int v3)], [.int r3], x4) _
          refine am_Rr.go 1 (σ' := (if (0 : Int32) ≤ r3 then 39 else 32, [some (.ref 0), some (.long v1), none, some (.int v3)], [], x4)) rfl ?_
          refine am_Rr.ite (fun h6 => ?_) (fun h6 => ?_)
          · rw [if_pos h6] at hF
            refine am_Rr.go 2 (σ' := (4, [some (.ref 0), some (.long v1), none, some (.int (v3 + 1))], [], x4)) rfl ?_
            exact ih _ _ _ hF
          · rw [if_neg h6] at hF
            refine am_Rr.go 2 (σ' := (34, [some (.ref 0), some (.long v1), none, some (.int v3)], [.int v3, .long v1], x4)) rfl ?_
            refine am_Rr.call (pc := 37) (ls := [some (.ref 0), some (.long v1), none, some (.int v3)]) (st := [.long v1]) rfl (S_bit (d + 2) v3 x4) ?_
            rintro _ _ ⟨rfl, rfl⟩
            show am_Rr _ _ (37, [some (.ref 0), some (.long v1), none, some (.int v3)], [.long (am_bit v3), .long v1], x4) _
            refine am_Rr.go 4 (σ' := (4, [some (.ref 0), some (.long (v1 ||| (am_bit v3))), none, some (.int (v3 + 1))], [], x4)) rfl ?_
            exact ih _ _ _ hF
      · rw [if_neg b2] at hF
        show am_Rr _ _ (21, [some (.ref 0), some (.long v1), none, some (.int v3)], [.int 0], x) _
        refine am_Rr.go 3 (σ' := (4, [some (.ref 0), some (.long v1), none, some (.int (v3 + 1))], [], x)) rfl ?_
        exact ih _ _ _ hF
noncomputable def G_X7_homesOfTraces  (x : am_X) : Option (Int64 × am_X) := L_X7_homesOfTraces_4 1000 (0 : Int64) (0 : Int32) x
theorem A_X7_homesOfTraces (d : Nat)  {x : am_X} {res : Int64 × am_X} (hF : G_X7_homesOfTraces  x = some res) : am_T (d + 6) mX7_homesOfTraces [.ref 0] x (fun ro y => ro = some (.long res.1) ∧ res.2 = y) := by
  refine am_T.of rfl ?_
  show am_Rr (d + 5) kX7_homesOfTraces (0, [some (.ref 0), none, none, none], [], x) _
  unfold G_X7_homesOfTraces at hF
  refine am_Rr.go 4 (σ' := (4, [some (.ref 0), some (.long 0), none, some (.int 0)], [], x)) rfl ?_
  exact L_X7_homesOfTraces_4_ok d res _ _ _ _ hF
noncomputable def G_X7_finds (a : Int32) (x : am_X) : Option (Int32 × am_X) := (if a < 0 then (match G_X7_refused (-2 : Int32) x with | none => none | some (r2, x3) => some (r2, x3)) else (if a ≤ 2 then (if ((x.1 513) - (x.1 513) / 2 * 2) = 0 then (match G_X7_rowTellsSquares (2 : Int32) x with | none => none | some (r7, x8) => (if r7 = 0 then (match G_X7_refused (-3 : Int32) x8 with | none => none | some (r11, x12) => some (r11, x12)) else (if a = 0 then (match G_X7_firstWrongPair (x8.1 36) x8 with | none => none | some (r15, x16) => some (r15, x16)) else (match G_X7_homesOfTraces  x8 with | none => none | some (r18, x19) => (if a = 1 then some ((am_bc r18), x19) else some ((am_least r18), x19)))))) else (match G_X7_refused (-3 : Int32) x with | none => none | some (r22, x23) => some (r22, x23))) else (match G_X7_refused (-2 : Int32) x with | none => none | some (r25, x26) => some (r25, x26))))
theorem A_X7_finds (d : Nat) {a : Int32} {x : am_X} {res : Int32 × am_X} (hF : G_X7_finds a x = some res) : am_T (d + 7) mX7_finds [.ref 0, .int a] x (fun ro y => ro = some (.int res.1) ∧ res.2 = y) := by
  refine am_T.of rfl ?_
  show am_Rr (d + 6) kX7_finds (0, [some (.ref 0), some (.int a), none, none], [], x) _
  unfold G_X7_finds at hF
  refine am_Rr.go 2 (σ' := (if a < 0 then 9 else 4, [some (.ref 0), some (.int a), none, none], [], x)) rfl ?_
  refine am_Rr.ite (fun h1 => ?_) (fun h1 => ?_)
  · rw [if_pos h1] at hF
    refine am_Rr.go 2 (σ' := (12, [some (.ref 0), some (.int a), none, none], [.int (-2), .ref 0], x)) rfl ?_
    cases g4 : G_X7_refused (-2 : Int32) x with
    | none => rw [g4] at hF; cases hF
    | some q_ =>
      obtain ⟨r2, x3⟩ := q_
      rw [g4] at hF
      dsimp only at hF
      refine am_Rr.call (pc := 15) (ls := [some (.ref 0), some (.int a), none, none]) (st := []) rfl (A_X7_refused (d + 4) g4) ?_
      rintro _ _ ⟨rfl, rfl⟩
      show am_Rr _ _ (15, [some (.ref 0), some (.int a), none, none], [.int r2], x3) _
      obtain rfl := Option.some.inj hF
      exact am_Rr.ret (v := some (.int r2)) (x := x3) rfl (by trivial) ⟨rfl, rfl⟩
  · rw [if_neg h1] at hF
    refine am_Rr.go 3 (σ' := (if a ≤ 2 then 16 else 9, [some (.ref 0), some (.int a), none, none], [], x)) rfl ?_
    refine am_Rr.ite (fun h5 => ?_) (fun h5 => ?_)
    · rw [if_pos h5] at hF
      refine am_Rr.go 4 (σ' := (24, [some (.ref 0), some (.int a), none, none], [.int 2, .int (x.1 513)], x)) rfl ?_
      refine am_Rr.chk (σ' := (25, [some (.ref 0), some (.int a), none, none], [.int ((x.1 513) - (x.1 513) / 2 * 2)], x)) rfl (by decide) ?_
      refine am_Rr.go 1 (σ' := (if ((x.1 513) - (x.1 513) / 2 * 2) = 0 then 28 else 36, [some (.ref 0), some (.int a), none, none], [], x)) rfl ?_
      refine am_Rr.ite (fun h6 => ?_) (fun h6 => ?_)
      · rw [if_pos h6] at hF
        refine am_Rr.go 2 (σ' := (30, [some (.ref 0), some (.int a), none, none], [.int 2, .ref 0], x)) rfl ?_
        cases g9 : G_X7_rowTellsSquares (2 : Int32) x with
        | none => rw [g9] at hF; cases hF
        | some q_ =>
          obtain ⟨r7, x8⟩ := q_
          rw [g9] at hF
          dsimp only at hF
          refine am_Rr.call (pc := 33) (ls := [some (.ref 0), some (.int a), none, none]) (st := []) rfl (A_X7_rowTellsSquares (d + 3) g9) ?_
          rintro _ _ ⟨rfl, rfl⟩
          show am_Rr _ _ (33, [some (.ref 0), some (.int a), none, none], [.int r7], x8) _
          refine am_Rr.go 1 (σ' := (if r7 = 0 then 36 else 43, [some (.ref 0), some (.int a), none, none], [], x8)) rfl ?_
          refine am_Rr.ite (fun h10 => ?_) (fun h10 => ?_)
          · rw [if_pos h10] at hF
            refine am_Rr.go 2 (σ' := (39, [some (.ref 0), some (.int a), none, none], [.int (-3), .ref 0], x8)) rfl ?_
            cases g13 : G_X7_refused (-3 : Int32) x8 with
            | none => rw [g13] at hF; cases hF
            | some q_ =>
              obtain ⟨r11, x12⟩ := q_
              rw [g13] at hF
              dsimp only at hF
              refine am_Rr.call (pc := 42) (ls := [some (.ref 0), some (.int a), none, none]) (st := []) rfl (A_X7_refused (d + 4) g13) ?_
              rintro _ _ ⟨rfl, rfl⟩
              show am_Rr _ _ (42, [some (.ref 0), some (.int a), none, none], [.int r11], x12) _
              obtain rfl := Option.some.inj hF
              exact am_Rr.ret (v := some (.int r11)) (x := x12) rfl (by trivial) ⟨rfl, rfl⟩
          · rw [if_neg h10] at hF
            refine am_Rr.go 2 (σ' := (if a = 0 then 47 else 59, [some (.ref 0), some (.int a), none, none], [], x8)) rfl ?_
            refine am_Rr.ite (fun h14 => ?_) (fun h14 => ?_)
            · rw [if_pos h14] at hF
              refine am_Rr.go 4 (σ' := (55, [some (.ref 0), some (.int a), none, none], [.int (x8.1 36), .ref 0], x8)) rfl ?_
              cases g17 : G_X7_firstWrongPair (x8.1 36) x8 with
              | none => rw [g17] at hF; cases hF
              | some q_ =>
                obtain ⟨r15, x16⟩ := q_
                rw [g17] at hF
                dsimp only at hF
                refine am_Rr.call (pc := 58) (ls := [some (.ref 0), some (.int a), none, none]) (st := []) rfl (A_X7_firstWrongPair (d + 1) g17) ?_
                rintro _ _ ⟨rfl, rfl⟩
                show am_Rr _ _ (58, [some (.ref 0), some (.int a), none, none], [.int r15], x16) _
                obtain rfl := Option.some.inj hF
                exact am_Rr.ret (v := some (.int r15)) (x := x16) rfl (by trivial) ⟨rfl, rfl⟩
            · rw [if_neg h14] at hF
              refine am_Rr.go 1 (σ' := (60, [some (.ref 0), some (.int a), none, none], [.ref 0], x8)) rfl ?_
              cases g20 : G_X7_homesOfTraces  x8 with
              | none => rw [g20] at hF; cases hF
              | some q_ =>
                obtain ⟨r18, x19⟩ := q_
                rw [g20] at hF
                dsimp only at hF
                refine am_Rr.call (pc := 63) (ls := [some (.ref 0), some (.int a), none, none]) (st := []) rfl (A_X7_homesOfTraces d g20) ?_
                rintro _ _ ⟨rfl, rfl⟩
                show am_Rr _ _ (63, [some (.ref 0), some (.int a), none, none], [.long r18], x19) _
                refine am_Rr.go 4 (σ' := (if a = 1 then 69 else 76, [some (.ref 0), some (.int a), some (.long r18), none], [], x19)) rfl ?_
                refine am_Rr.ite (fun h21 => ?_) (fun h21 => ?_)
                · rw [if_pos h21] at hF
                  refine am_Rr.go 1 (σ' := (70, [some (.ref 0), some (.int a), some (.long r18), none], [.long r18], x19)) rfl ?_
                  refine am_Rr.call (pc := 73) (ls := [some (.ref 0), some (.int a), some (.long r18), none]) (st := []) rfl (S_bitCountJ (d + 4) r18 x19) ?_
                  rintro _ _ ⟨rfl, rfl⟩
                  show am_Rr _ _ (73, [some (.ref 0), some (.int a), some (.long r18), none], [.int (am_bc r18)], x19) _
                  refine am_Rr.go 1 (σ' := (80, [some (.ref 0), some (.int a), some (.long r18), none], [.int (am_bc r18)], x19)) rfl ?_
                  obtain rfl := Option.some.inj hF
                  exact am_Rr.ret (v := some (.int (am_bc r18))) (x := x19) rfl (by trivial) ⟨rfl, rfl⟩
                · rw [if_neg h21] at hF
                  refine am_Rr.go 1 (σ' := (77, [some (.ref 0), some (.int a), some (.long r18), none], [.long r18], x19)) rfl ?_
                  refine am_Rr.call (pc := 80) (ls := [some (.ref 0), some (.int a), some (.long r18), none]) (st := []) rfl (S_least (d + 3) r18 x19) ?_
                  rintro _ _ ⟨rfl, rfl⟩
                  show am_Rr _ _ (80, [some (.ref 0), some (.int a), some (.long r18), none], [.int (am_least r18)], x19) _
                  obtain rfl := Option.some.inj hF
                  exact am_Rr.ret (v := some (.int (am_least r18))) (x := x19) rfl (by trivial) ⟨rfl, rfl⟩
      · rw [if_neg h6] at hF
        refine am_Rr.go 2 (σ' := (39, [some (.ref 0), some (.int a), none, none], [.int (-3), .ref 0], x)) rfl ?_
        cases g24 : G_X7_refused (-3 : Int32) x with
        | none => rw [g24] at hF; cases hF
        | some q_ =>
          obtain ⟨r22, x23⟩ := q_
          rw [g24] at hF
          dsimp only at hF
          refine am_Rr.call (pc := 42) (ls := [some (.ref 0), some (.int a), none, none]) (st := []) rfl (A_X7_refused (d + 4) g24) ?_
          rintro _ _ ⟨rfl, rfl⟩
          show am_Rr _ _ (42, [some (.ref 0), some (.int a), none, none], [.int r22], x23) _
          obtain rfl := Option.some.inj hF
          exact am_Rr.ret (v := some (.int r22)) (x := x23) rfl (by trivial) ⟨rfl, rfl⟩
    · rw [if_neg h5] at hF
      refine am_Rr.go 2 (σ' := (12, [some (.ref 0), some (.int a), none, none], [.int (-2), .ref 0], x)) rfl ?_
      cases g27 : G_X7_refused (-2 : Int32) x with
      | none => rw [g27] at hF; cases hF
      | some q_ =>
        obtain ⟨r25, x26⟩ := q_
        rw [g27] at hF
        dsimp only at hF
        refine am_Rr.call (pc := 15) (ls := [some (.ref 0), some (.int a), none, none]) (st := []) rfl (A_X7_refused (d + 4) g27) ?_
        rintro _ _ ⟨rfl, rfl⟩
        show am_Rr _ _ (15, [some (.ref 0), some (.int a), none, none], [.int r25], x26) _
        obtain rfl := Option.some.inj hF
        exact am_Rr.ret (v := some (.int r25)) (x := x26) rfl (by trivial) ⟨rfl, rfl⟩
noncomputable def G_X7_row (a : Int32) (x : am_X) : Option (Int32 × am_X) := (if (0 : Int32) ≤ a then (if (99 : Int32) < a then (match G_X7_refused (-6 : Int32) x with | none => none | some (r3, x4) => some (r3, x4)) else (if 12 ≤ (x.1 513).toInt then (match G_X7_refused (-6 : Int32) x with | none => none | some (r7, x8) => some (r7, x8)) else (if 0 ≤ (x.1 513).toInt ∧ (x.1 513).toInt < 12 then some (((x.1 513) + 1), (am_uI (am_sA x 17 (upd (x.2.2.1 17) (x.1 513).toNatClampNeg a)) 513 ((x.1 513) + 1))) else some ((x.1 513), x)))) else (match G_X7_refused (-4 : Int32) x with | none => none | some (r12, x13) => some (r12, x13)))
theorem A_X7_row (d : Nat) {a : Int32} {x : am_X} {res : Int32 × am_X} (hF : G_X7_row a x = some res) : am_T (d + 3) mX7_row [.ref 0, .int a] x (fun ro y => ro = some (.int res.1) ∧ res.2 = y) := by
  refine am_T.of rfl ?_
  show am_Rr (d + 2) kX7_row (0, [some (.ref 0), some (.int a)], [], x) _
  unfold G_X7_row at hF
  refine am_Rr.go 2 (σ' := (if (0 : Int32) ≤ a then 11 else 4, [some (.ref 0), some (.int a)], [], x)) rfl ?_
  refine am_Rr.ite (fun h1 => ?_) (fun h1 => ?_)
  · rw [if_pos h1] at hF
    refine am_Rr.go 3 (σ' := (if (99 : Int32) < a then 27 else 17, [some (.ref 0), some (.int a)], [], x)) rfl ?_
    refine am_Rr.ite (fun h2 => ?_) (fun h2 => ?_)
    · rw [if_pos h2] at hF
      refine am_Rr.go 2 (σ' := (30, [some (.ref 0), some (.int a)], [.int (-6), .ref 0], x)) rfl ?_
      cases g5 : G_X7_refused (-6 : Int32) x with
      | none => rw [g5] at hF; cases hF
      | some q_ =>
        obtain ⟨r3, x4⟩ := q_
        rw [g5] at hF
        dsimp only at hF
        refine am_Rr.call (pc := 33) (ls := [some (.ref 0), some (.int a)]) (st := []) rfl (A_X7_refused d g5) ?_
        rintro _ _ ⟨rfl, rfl⟩
        show am_Rr _ _ (33, [some (.ref 0), some (.int a)], [.int r3], x4) _
        obtain rfl := Option.some.inj hF
        exact am_Rr.ret (v := some (.int r3)) (x := x4) rfl (by trivial) ⟨rfl, rfl⟩
    · rw [if_neg h2] at hF
      refine am_Rr.go 2 (σ' := (21, [some (.ref 0), some (.int a)], [.ref 16], x)) rfl ?_
      refine am_Rr.call (pc := 24) (ls := [some (.ref 0), some (.int a)]) (st := []) rfl (S_isFull_16 d  x) ?_
      rintro _ _ ⟨rfl, (⟨rfl, b6⟩ | ⟨rfl, b6⟩)⟩
      · rw [if_pos b6] at hF
        show am_Rr _ _ (24, [some (.ref 0), some (.int a)], [.int 1], x) _
        refine am_Rr.go 3 (σ' := (30, [some (.ref 0), some (.int a)], [.int (-6), .ref 0], x)) rfl ?_
        cases g9 : G_X7_refused (-6 : Int32) x with
        | none => rw [g9] at hF; cases hF
        | some q_ =>
          obtain ⟨r7, x8⟩ := q_
          rw [g9] at hF
          dsimp only at hF
          refine am_Rr.call (pc := 33) (ls := [some (.ref 0), some (.int a)]) (st := []) rfl (A_X7_refused d g9) ?_
          rintro _ _ ⟨rfl, rfl⟩
          show am_Rr _ _ (33, [some (.ref 0), some (.int a)], [.int r7], x8) _
          obtain rfl := Option.some.inj hF
          exact am_Rr.ret (v := some (.int r7)) (x := x8) rfl (by trivial) ⟨rfl, rfl⟩
      · rw [if_neg b6] at hF
        show am_Rr _ _ (24, [some (.ref 0), some (.int a)], [.int 0], x) _
        refine am_Rr.go 4 (σ' := (39, [some (.ref 0), some (.int a)], [.int a, .ref 16], x)) rfl ?_
        refine am_Rr.call (pc := 42) (ls := [some (.ref 0), some (.int a)]) (st := []) rfl (S_add_16 d a x) ?_
        rintro _ _ (⟨b10, rfl, rfl⟩ | ⟨b11, rfl, rfl⟩)
        · rw [if_pos b10] at hF
          show am_Rr _ _ (42, [some (.ref 0), some (.int a)], [.int ((x.1 513) + 1)], (am_uI (am_sA x 17 (upd (x.2.2.1 17) (x.1 513).toNatClampNeg a)) 513 ((x.1 513) + 1))) _
          obtain rfl := Option.some.inj hF
          exact am_Rr.ret (v := some (.int ((x.1 513) + 1))) (x := (am_uI (am_sA x 17 (upd (x.2.2.1 17) (x.1 513).toNatClampNeg a)) 513 ((x.1 513) + 1))) rfl (by trivial) ⟨rfl, rfl⟩
        · rw [if_neg b11] at hF
          show am_Rr _ _ (42, [some (.ref 0), some (.int a)], [.int (x.1 513)], x) _
          obtain rfl := Option.some.inj hF
          exact am_Rr.ret (v := some (.int (x.1 513))) (x := x) rfl (by trivial) ⟨rfl, rfl⟩
  · rw [if_neg h1] at hF
    refine am_Rr.go 2 (σ' := (7, [some (.ref 0), some (.int a)], [.int (-4), .ref 0], x)) rfl ?_
    cases g14 : G_X7_refused (-4 : Int32) x with
    | none => rw [g14] at hF; cases hF
    | some q_ =>
      obtain ⟨r12, x13⟩ := q_
      rw [g14] at hF
      dsimp only at hF
      refine am_Rr.call (pc := 10) (ls := [some (.ref 0), some (.int a)]) (st := []) rfl (A_X7_refused d g14) ?_
      rintro _ _ ⟨rfl, rfl⟩
      show am_Rr _ _ (10, [some (.ref 0), some (.int a)], [.int r12], x13) _
      obtain rfl := Option.some.inj hF
      exact am_Rr.ret (v := some (.int r12)) (x := x13) rfl (by trivial) ⟨rfl, rfl⟩
