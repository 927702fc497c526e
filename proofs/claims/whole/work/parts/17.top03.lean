noncomputable def G_X7_mayBe (a : Int32) (b : Int32) (x : am_X) : Option (Int32 × am_X) := (if a < 0 then (match G_X7_refused (-4 : Int32) x with | none => none | some (r2, x3) => some (r2, x3)) else (if (-1 : Int32) ≤ b then (if a ≤ 999 then (if b < 36 then (match G_X7_reachedBy a x with | none => none | some (r8, x9) => (if (0 : Int32) ≤ b then (if am_hasb r8 b then some ((1 : Int32), x9) else some ((0 : Int32), x9)) else some ((am_bc r8), x9))) else (match G_X7_refused (-1 : Int32) x with | none => none | some (r13, x14) => some (r13, x14))) else (match G_X7_refused (-6 : Int32) x with | none => none | some (r16, x17) => some (r16, x17))) else (match G_X7_refused (-4 : Int32) x with | none => none | some (r19, x20) => some (r19, x20))))
theorem A_X7_mayBe (d : Nat) {a : Int32} {b : Int32} {x : am_X} {res : Int32 × am_X} (hF : G_X7_mayBe a b x = some res) : am_T (d + 6) mX7_mayBe [.ref 0, .int a, .int b] x (fun ro y => ro = some (.int res.1) ∧ res.2 = y) := by
  refine am_T.of rfl ?_
  show am_Rr (d + 5) kX7_mayBe (0, [some (.ref 0), some (.int a), some (.int b), none, none], [], x) _
  unfold G_X7_mayBe at hF
  refine am_Rr.go 2 (σ' := (if a < 0 then 9 else 4, [some (.ref 0), some (.int a), some (.int b), none, none], [], x)) rfl ?_
  refine am_Rr.ite (fun h1 => ?_) (fun h1 => ?_)
  · rw [if_pos h1] at hF
    refine am_Rr.go 2 (σ' := (12, [some (.ref 0), some (.int a), some (.int b), none, none], [.int (-4), .ref 0], x)) rfl ?_
    cases g4 : G_X7_refused (-4 : Int32) x with
    | none => rw [g4] at hF; cases hF
    | some q_ =>
      obtain ⟨r2, x3⟩ := q_
      rw [g4] at hF
      dsimp only at hF
      refine am_Rr.call (pc := 15) (ls := [some (.ref 0), some (.int a), some (.int b), none, none]) (st := []) rfl (A_X7_refused (d + 3) g4) ?_
      rintro _ _ ⟨rfl, rfl⟩
      show am_Rr _ _ (15, [some (.ref 0), some (.int a), some (.int b), none, none], [.int r2], x3) _
      obtain rfl := Option.some.inj hF
      exact am_Rr.ret (v := some (.int r2)) (x := x3) rfl (by trivial) ⟨rfl, rfl⟩
  · rw [if_neg h1] at hF
    refine am_Rr.go 3 (σ' := (if (-1 : Int32) ≤ b then 16 else 9, [some (.ref 0), some (.int a), some (.int b), none, none], [], x)) rfl ?_
    refine am_Rr.ite (fun h5 => ?_) (fun h5 => ?_)
    · rw [if_pos h5] at hF
      refine am_Rr.go 3 (σ' := (if a ≤ 999 then 30 else 23, [some (.ref 0), some (.int a), some (.int b), none, none], [], x)) rfl ?_
      refine am_Rr.ite (fun h6 => ?_) (fun h6 => ?_)
      · rw [if_pos h6] at hF
        refine am_Rr.go 3 (σ' := (if b < 36 then 42 else 36, [some (.ref 0), some (.int a), some (.int b), none, none], [], x)) rfl ?_
        refine am_Rr.ite (fun h7 => ?_) (fun h7 => ?_)
        · rw [if_pos h7] at hF
          refine am_Rr.go 2 (σ' := (44, [some (.ref 0), some (.int a), some (.int b), none, none], [.int a, .ref 0], x)) rfl ?_
          cases g10 : G_X7_reachedBy a x with
          | none => rw [g10] at hF; cases hF
          | some q_ =>
            obtain ⟨r8, x9⟩ := q_
            rw [g10] at hF
            dsimp only at hF
            refine am_Rr.call (pc := 47) (ls := [some (.ref 0), some (.int a), some (.int b), none, none]) (st := []) rfl (A_X7_reachedBy d g10) ?_
            rintro _ _ ⟨rfl, rfl⟩
            show am_Rr _ _ (47, [some (.ref 0), some (.int a), some (.int b), none, none], [.long r8], x9) _
            refine am_Rr.go 3 (σ' := (if (0 : Int32) ≤ b then 59 else 52, [some (.ref 0), some (.int a), some (.int b), some (.long r8), none], [], x9)) rfl ?_
            refine am_Rr.ite (fun h11 => ?_) (fun h11 => ?_)
            · rw [if_pos h11] at hF
              refine am_Rr.go 2 (σ' := (61, [some (.ref 0), some (.int a), some (.int b), some (.long r8), none], [.int b, .long r8], x9)) rfl ?_
              refine am_Rr.call (pc := 64) (ls := [some (.ref 0), some (.int a), some (.int b), some (.long r8), none]) (st := []) rfl (S_has (d + 1) r8 b x9) ?_
              rintro _ _ ⟨rfl, (⟨rfl, b12⟩ | ⟨rfl, b12⟩)⟩
              · rw [if_pos b12] at hF
                show am_Rr _ _ (64, [some (.ref 0), some (.int a), some (.int b), some (.long r8), none], [.int 1], x9) _
                refine am_Rr.call (pc := 67) (ls := [some (.ref 0), some (.int a), some (.int b), some (.long r8), none]) (st := []) rfl (S_yesOrNo (d + 3) (1 : Int32) (by first | exact Or.inl rfl | exact Or.inr rfl) x9) ?_
                rintro _ _ ⟨rfl, rfl⟩
                show am_Rr _ _ (67, [some (.ref 0), some (.int a), some (.int b), some (.long r8), none], [.int 1], x9) _
                obtain rfl := Option.some.inj hF
                exact am_Rr.ret (v := some (.int 1)) (x := x9) rfl (by trivial) ⟨rfl, rfl⟩
              · rw [if_neg b12] at hF
                show am_Rr _ _ (64, [some (.ref 0), some (.int a), some (.int b), some (.long r8), none], [.int 0], x9) _
                refine am_Rr.call (pc := 67) (ls := [some (.ref 0), some (.int a), some (.int b), some (.long r8), none]) (st := []) rfl (S_yesOrNo (d + 3) (0 : Int32) (by first | exact Or.inl rfl | exact Or.inr rfl) x9) ?_
                rintro _ _ ⟨rfl, rfl⟩
                show am_Rr _ _ (67, [some (.ref 0), some (.int a), some (.int b), some (.long r8), none], [.int 0], x9) _
                obtain rfl := Option.some.inj hF
                exact am_Rr.ret (v := some (.int 0)) (x := x9) rfl (by trivial) ⟨rfl, rfl⟩
            · rw [if_neg h11] at hF
              refine am_Rr.go 1 (σ' := (53, [some (.ref 0), some (.int a), some (.int b), some (.long r8), none], [.long r8], x9)) rfl ?_
              refine am_Rr.call (pc := 56) (ls := [some (.ref 0), some (.int a), some (.int b), some (.long r8), none]) (st := []) rfl (S_bitCountJ (d + 3) r8 x9) ?_
              rintro _ _ ⟨rfl, rfl⟩
              show am_Rr _ _ (56, [some (.ref 0), some (.int a), some (.int b), some (.long r8), none], [.int (am_bc r8)], x9) _
              refine am_Rr.go 1 (σ' := (67, [some (.ref 0), some (.int a), some (.int b), some (.long r8), none], [.int (am_bc r8)], x9)) rfl ?_
              obtain rfl := Option.some.inj hF
              exact am_Rr.ret (v := some (.int (am_bc r8))) (x := x9) rfl (by trivial) ⟨rfl, rfl⟩
        · rw [if_neg h7] at hF
          refine am_Rr.go 2 (σ' := (38, [some (.ref 0), some (.int a), some (.int b), none, none], [.int (-1), .ref 0], x)) rfl ?_
          cases g15 : G_X7_refused (-1 : Int32) x with
          | none => rw [g15] at hF; cases hF
          | some q_ =>
            obtain ⟨r13, x14⟩ := q_
            rw [g15] at hF
            dsimp only at hF
            refine am_Rr.call (pc := 41) (ls := [some (.ref 0), some (.int a), some (.int b), none, none]) (st := []) rfl (A_X7_refused (d + 3) g15) ?_
            rintro _ _ ⟨rfl, rfl⟩
            show am_Rr _ _ (41, [some (.ref 0), some (.int a), some (.int b), none, none], [.int r13], x14) _
            obtain rfl := Option.some.inj hF
            exact am_Rr.ret (v := some (.int r13)) (x := x14) rfl (by trivial) ⟨rfl, rfl⟩
      · rw [if_neg h6] at hF
        refine am_Rr.go 2 (σ' := (26, [some (.ref 0), some (.int a), some (.int b), none, none], [.int (-6), .ref 0], x)) rfl ?_
        cases g18 : G_X7_refused (-6 : Int32) x with
        | none => rw [g18] at hF; cases hF
        | some q_ =>
          obtain ⟨r16, x17⟩ := q_
          rw [g18] at hF
          dsimp only at hF
          refine am_Rr.call (pc := 29) (ls := [some (.ref 0), some (.int a), some (.int b), none, none]) (st := []) rfl (A_X7_refused (d + 3) g18) ?_
          rintro _ _ ⟨rfl, rfl⟩
          show am_Rr _ _ (29, [some (.ref 0), some (.int a), some (.int b), none, none], [.int r16], x17) _
          obtain rfl := Option.some.inj hF
          exact am_Rr.ret (v := some (.int r16)) (x := x17) rfl (by trivial) ⟨rfl, rfl⟩
    · rw [if_neg h5] at hF
      refine am_Rr.go 2 (σ' := (12, [some (.ref 0), some (.int a), some (.int b), none, none], [.int (-4), .ref 0], x)) rfl ?_
      cases g21 : G_X7_refused (-4 : Int32) x with
      | none => rw [g21] at hF; cases hF
      | some q_ =>
        obtain ⟨r19, x20⟩ := q_
        rw [g21] at hF
        dsimp only at hF
        refine am_Rr.call (pc := 15) (ls := [some (.ref 0), some (.int a), some (.int b), none, none]) (st := []) rfl (A_X7_refused (d + 3) g21) ?_
        rintro _ _ ⟨rfl, rfl⟩
        show am_Rr _ _ (15, [some (.ref 0), some (.int a), some (.int b), none, none], [.int r19], x20) _
        obtain rfl := Option.some.inj hF
        exact am_Rr.ret (v := some (.int r19)) (x := x20) rfl (by trivial) ⟨rfl, rfl⟩
noncomputable def G_X7_out (a : Int32) (x : am_X) : Option (Int32 × am_X) := (if a = 0 then (match G_X6_stepsTo_18 (am_sqo ((am_spx x (x.1 36) (0 : Int64)).2.2.2 2) (5 : Int32)) (am_spx x (x.1 36) (0 : Int64)) with | none => none | some (r2, x3) => (if (0 : Int32) ≤ r2 then (if a = 0 then some ((r2 * (x3.1 37)), x3) else some ((am_least ((am_lyr (x3.2.2.2 19) (x3.1 577) r2) &&& (am_sqo (x3.2.2.2 2) (5 : Int32)))), x3)) else some ((-9 : Int32), x3))) else (if a = 1 then (match G_X6_stepsTo_18 (am_sqo ((am_spx x (x.1 36) (0 : Int64)).2.2.2 2) (5 : Int32)) (am_spx x (x.1 36) (0 : Int64)) with | none => none | some (r8, x9) => (if (0 : Int32) ≤ r8 then (if a = 0 then some ((r8 * (x9.1 37)), x9) else some ((am_least ((am_lyr (x9.2.2.2 19) (x9.1 577) r8) &&& (am_sqo (x9.2.2.2 2) (5 : Int32)))), x9)) else some ((-9 : Int32), x9))) else (match G_X7_refused (-2 : Int32) x with | none => none | some (r13, x14) => some (r13, x14))))
theorem A_X7_out (d : Nat) {a : Int32} {x : am_X} {res : Int32 × am_X} (hF : G_X7_out a x = some res) : am_T (d + 5) mX7_out [.ref 0, .int a] x (fun ro y => ro = some (.int res.1) ∧ res.2 = y) := by
  refine am_T.of rfl ?_
  show am_Rr (d + 4) kX7_out (0, [some (.ref 0), some (.int a), none], [], x) _
  unfold G_X7_out at hF
  refine am_Rr.go 2 (σ' := (if a = 0 then 16 else 4, [some (.ref 0), some (.int a), none], [], x)) rfl ?_
  refine am_Rr.ite (fun h1 => ?_) (fun h1 => ?_)
  · rw [if_pos h1] at hF
    refine am_Rr.go 8 (σ' := (32, [some (.ref 0), some (.int a), none], [.long 0, .int (x.1 36), .ref 1, .ref 18], x)) rfl ?_
    refine am_Rr.call (pc := 35) (ls := [some (.ref 0), some (.int a), none]) (st := []) rfl (S_spread d (x.1 36) (0 : Int64) x) ?_
    rintro _ _ ⟨rfl, rfl⟩
    show am_Rr _ _ (35, [some (.ref 0), some (.int a), none], [], (am_spx x (x.1 36) (0 : Int64))) _
    refine am_Rr.go 5 (σ' := (44, [some (.ref 0), some (.int a), none], [.int 5, .ref 1, .ref 18], (am_spx x (x.1 36) (0 : Int64)))) rfl ?_
    refine am_Rr.call (pc := 47) (ls := [some (.ref 0), some (.int a), none]) (st := [.ref 18]) rfl (S_squaresOf_1 (d + 2) (5 : Int32) (am_spx x (x.1 36) (0 : Int64))) ?_
    rintro _ _ ⟨rfl, rfl⟩
    show am_Rr _ _ (47, [some (.ref 0), some (.int a), none], [.long (am_sqo ((am_spx x (x.1 36) (0 : Int64)).2.2.2 2) (5 : Int32)), .ref 18], (am_spx x (x.1 36) (0 : Int64))) _
    cases g4 : G_X6_stepsTo_18 (am_sqo ((am_spx x (x.1 36) (0 : Int64)).2.2.2 2) (5 : Int32)) (am_spx x (x.1 36) (0 : Int64)) with
    | none => rw [g4] at hF; cases hF
    | some q_ =>
      obtain ⟨r2, x3⟩ := q_
      rw [g4] at hF
      dsimp only at hF
      refine am_Rr.call (pc := 50) (ls := [some (.ref 0), some (.int a), none]) (st := []) rfl (A_X6_stepsTo_18 (d + 1) g4) ?_
      rintro _ _ ⟨rfl, rfl⟩
      show am_Rr _ _ (50, [some (.ref 0), some (.int a), none], [.int r2], x3) _
      refine am_Rr.go 3 (σ' := (if (0 : Int32) ≤ r2 then 58 else 55, [some (.ref 0), some (.int a), some (.int r2)], [], x3)) rfl ?_
      refine am_Rr.ite (fun h5 => ?_) (fun h5 => ?_)
      · rw [if_pos h5] at hF
        refine am_Rr.go 2 (σ' := (if a = 0 then 62 else 74, [some (.ref 0), some (.int a), some (.int r2)], [], x3)) rfl ?_
        refine am_Rr.ite (fun h6 => ?_) (fun h6 => ?_)
        · rw [if_pos h6] at hF
          refine am_Rr.go 6 (σ' := (94, [some (.ref 0), some (.int a), some (.int r2)], [.int (r2 * (x3.1 37))], x3)) rfl ?_
          obtain rfl := Option.some.inj hF
          exact am_Rr.ret (v := some (.int (r2 * (x3.1 37)))) (x := x3) rfl (by trivial) ⟨rfl, rfl⟩
        · rw [if_neg h6] at hF
          refine am_Rr.go 3 (σ' := (79, [some (.ref 0), some (.int a), some (.int r2)], [.int r2, .ref 18], x3)) rfl ?_
          refine am_Rr.call (pc := 82) (ls := [some (.ref 0), some (.int a), some (.int r2)]) (st := []) rfl (S_layer (d + 2) r2 x3) ?_
          rintro _ _ ⟨rfl, rfl⟩
          show am_Rr _ _ (82, [some (.ref 0), some (.int a), some (.int r2)], [.long (am_lyr (x3.2.2.2 19) (x3.1 577) r2)], x3) _
          refine am_Rr.go 3 (σ' := (87, [some (.ref 0), some (.int a), some (.int r2)], [.int 5, .ref 1, .long (am_lyr (x3.2.2.2 19) (x3.1 577) r2)], x3)) rfl ?_
          refine am_Rr.call (pc := 90) (ls := [some (.ref 0), some (.int a), some (.int r2)]) (st := [.long (am_lyr (x3.2.2.2 19) (x3.1 577) r2)]) rfl (S_squaresOf_1 (d + 2) (5 : Int32) x3) ?_
          rintro _ _ ⟨rfl, rfl⟩
          show am_Rr _ _ (90, [some (.ref 0), some (.int a), some (.int r2)], [.long (am_sqo (x3.2.2.2 2) (5 : Int32)), .long (am_lyr (x3.2.2.2 19) (x3.1 577) r2)], x3) _
          refine am_Rr.go 1 (σ' := (91, [some (.ref 0), some (.int a), some (.int r2)], [.long ((am_lyr (x3.2.2.2 19) (x3.1 577) r2) &&& (am_sqo (x3.2.2.2 2) (5 : Int32)))], x3)) rfl ?_
          refine am_Rr.call (pc := 94) (ls := [some (.ref 0), some (.int a), some (.int r2)]) (st := []) rfl (S_least (d + 1) ((am_lyr (x3.2.2.2 19) (x3.1 577) r2) &&& (am_sqo (x3.2.2.2 2) (5 : Int32))) x3) ?_
          rintro _ _ ⟨rfl, rfl⟩
          show am_Rr _ _ (94, [some (.ref 0), some (.int a), some (.int r2)], [.int (am_least ((am_lyr (x3.2.2.2 19) (x3.1 577) r2) &&& (am_sqo (x3.2.2.2 2) (5 : Int32))))], x3) _
          obtain rfl := Option.some.inj hF
          exact am_Rr.ret (v := some (.int (am_least ((am_lyr (x3.2.2.2 19) (x3.1 577) r2) &&& (am_sqo (x3.2.2.2 2) (5 : Int32)))))) (x := x3) rfl (by trivial) ⟨rfl, rfl⟩
      · rw [if_neg h5] at hF
        refine am_Rr.go 1 (σ' := (57, [some (.ref 0), some (.int a), some (.int r2)], [.int (-9)], x3)) rfl ?_
        obtain rfl := Option.some.inj hF
        exact am_Rr.ret (v := some (.int (-9))) (x := x3) rfl (by trivial) ⟨rfl, rfl⟩
  · rw [if_neg h1] at hF
    refine am_Rr.go 3 (σ' := (if a = 1 then 16 else 9, [some (.ref 0), some (.int a), none], [], x)) rfl ?_
    refine am_Rr.ite (fun h7 => ?_) (fun h7 => ?_)
    · rw [if_pos h7] at hF
      refine am_Rr.go 8 (σ' := (32, [some (.ref 0), some (.int a), none], [.long 0, .int (x.1 36), .ref 1, .ref 18], x)) rfl ?_
      refine am_Rr.call (pc := 35) (ls := [some (.ref 0), some (.int a), none]) (st := []) rfl (S_spread d (x.1 36) (0 : Int64) x) ?_
      rintro _ _ ⟨rfl, rfl⟩
      show am_Rr _ _ (35, [some (.ref 0), some (.int a), none], [], (am_spx x (x.1 36) (0 : Int64))) _
      refine am_Rr.go 5 (σ' := (44, [some (.ref 0), some (.int a), none], [.int 5, .ref 1, .ref 18], (am_spx x (x.1 36) (0 : Int64)))) rfl ?_
      refine am_Rr.call (pc := 47) (ls := [some (.ref 0), some (.int a), none]) (st := [.ref 18]) rfl (S_squaresOf_1 (d + 2) (5 : Int32) (am_spx x (x.1 36) (0 : Int64))) ?_
      rintro _ _ ⟨rfl, rfl⟩
      show am_Rr _ _ (47, [some (.ref 0), some (.int a), none], [.long (am_sqo ((am_spx x (x.1 36) (0 : Int64)).2.2.2 2) (5 : Int32)), .ref 18], (am_spx x (x.1 36) (0 : Int64))) _
      cases g10 : G_X6_stepsTo_18 (am_sqo ((am_spx x (x.1 36) (0 : Int64)).2.2.2 2) (5 : Int32)) (am_spx x (x.1 36) (0 : Int64)) with
      | none => rw [g10] at hF; cases hF
      | some q_ =>
        obtain ⟨r8, x9⟩ := q_
        rw [g10] at hF
        dsimp only at hF
        refine am_Rr.call (pc := 50) (ls := [some (.ref 0), some (.int a), none]) (st := []) rfl (A_X6_stepsTo_18 (d + 1) g10) ?_
        rintro _ _ ⟨rfl, rfl⟩
        show am_Rr _ _ (50, [some (.ref 0), some (.int a), none], [.int r8], x9) _
        refine am_Rr.go 3 (σ' := (if (0 : Int32) ≤ r8 then 58 else 55, [some (.ref 0), some (.int a), some (.int r8)], [], x9)) rfl ?_
        refine am_Rr.ite (fun h11 => ?_) (fun h11 => ?_)
        · rw [if_pos h11] at hF
          refine am_Rr.go 2 (σ' := (if a = 0 then 62 else 74, [some (.ref 0), some (.int a), some (.int r8)], [], x9)) rfl ?_
          refine am_Rr.ite (fun h12 => ?_) (fun h12 => ?_)
          · rw [if_pos h12] at hF
            refine am_Rr.go 6 (σ' := (94, [some (.ref 0), some (.int a), some (.int r8)], [.int (r8 * (x9.1 37))], x9)) rfl ?_
            obtain rfl := Option.some.inj hF
            exact am_Rr.ret (v := some (.int (r8 * (x9.1 37)))) (x := x9) rfl (by trivial) ⟨rfl, rfl⟩
          · rw [if_neg h12] at hF
            refine am_Rr.go 3 (σ' := (79, [some (.ref 0), some (.int a), some (.int r8)], [.int r8, .ref 18], x9)) rfl ?_
            refine am_Rr.call (pc := 82) (ls := [some (.ref 0), some (.int a), some (.int r8)]) (st := []) rfl (S_layer (d + 2) r8 x9) ?_
            rintro _ _ ⟨rfl, rfl⟩
            show am_Rr _ _ (82, [some (.ref 0), some (.int a), some (.int r8)], [.long (am_lyr (x9.2.2.2 19) (x9.1 577) r8)], x9) _
            refine am_Rr.go 3 (σ' := (87, [some (.ref 0), some (.int a), some (.int r8)], [.int 5, .ref 1, .long (am_lyr (x9.2.2.2 19) (x9.1 577) r8)], x9)) rfl ?_
            refine am_Rr.call (pc := 90) (ls := [some (.ref 0), some (.int a), some (.int r8)]) (st := [.long (am_lyr (x9.2.2.2 19) (x9.1 577) r8)]) rfl (S_squaresOf_1 (d + 2) (5 : Int32) x9) ?_
            rintro _ _ ⟨rfl, rfl⟩
            show am_Rr _ _ (90, [some (.ref 0), some (.int a), some (.int r8)], [.long (am_sqo (x9.2.2.2 2) (5 : Int32)), .long (am_lyr (x9.2.2.2 19) (x9.1 577) r8)], x9) _
            refine am_Rr.go 1 (σ' := (91, [some (.ref 0), some (.int a), some (.int r8)], [.long ((am_lyr (x9.2.2.2 19) (x9.1 577) r8) &&& (am_sqo (x9.2.2.2 2) (5 : Int32)))], x9)) rfl ?_
            refine am_Rr.call (pc := 94) (ls := [some (.ref 0), some (.int a), some (.int r8)]) (st := []) rfl (S_least (d + 1) ((am_lyr (x9.2.2.2 19) (x9.1 577) r8) &&& (am_sqo (x9.2.2.2 2) (5 : Int32))) x9) ?_
            rintro _ _ ⟨rfl, rfl⟩
            show am_Rr _ _ (94, [some (.ref 0), some (.int a), some (.int r8)], [.int (am_least ((am_lyr (x9.2.2.2 19) (x9.1 577) r8) &&& (am_sqo (x9.2.2.2 2) (5 : Int32))))], x9) _
            obtain rfl := Option.some.inj hF
            exact am_Rr.ret (v := some (.int (am_least ((am_lyr (x9.2.2.2 19) (x9.1 577) r8) &&& (am_sqo (x9.2.2.2 2) (5 : Int32)))))) (x := x9) rfl (by trivial) ⟨rfl, rfl⟩
        · rw [if_neg h11] at hF
          refine am_Rr.go 1 (σ' := (57, [some (.ref 0), some (.int a), some (.int r8)], [.int (-9)], x9)) rfl ?_
          obtain rfl := Option.some.inj hF
          exact am_Rr.ret (v := some (.int (-9))) (x := x9) rfl (by trivial) ⟨rfl, rfl⟩
    · rw [if_neg h7] at hF
      refine am_Rr.go 2 (σ' := (12, [some (.ref 0), some (.int a), none], [.int (-2), .ref 0], x)) rfl ?_
      cases g15 : G_X7_refused (-2 : Int32) x with
      | none => rw [g15] at hF; cases hF
      | some q_ =>
        obtain ⟨r13, x14⟩ := q_
        rw [g15] at hF
        dsimp only at hF
        refine am_Rr.call (pc := 15) (ls := [some (.ref 0), some (.int a), none]) (st := []) rfl (A_X7_refused (d + 2) g15) ?_
        rintro _ _ ⟨rfl, rfl⟩
        show am_Rr _ _ (15, [some (.ref 0), some (.int a), none], [.int r13], x14) _
        obtain rfl := Option.some.inj hF
        exact am_Rr.ret (v := some (.int r13)) (x := x14) rfl (by trivial) ⟨rfl, rfl⟩
noncomputable def L_X7_flooded_51 : Nat → Int64 → Int64 → Int64 → Int64 → Int32 → am_X → Option (Int64 × am_X)
  | 0, _, _, _, _, _, _ => none
  | n + 1, v3, v5, v7, v9, v11, x => (if (36 : Int32) ≤ v11 then some (v7, x) else (if (lg_cmp v9 0) = 0 then some (v7, x) else L_X7_flooded_51 n v3 v5 (v7 ||| (((am_bes (v9 &&& v5)) &&& v3) &&& (v7 ^^^ (-1)))) (((am_bes (v9 &&& v5)) &&& v3) &&& (v7 ^^^ (-1))) (v11 + 1) x))
theorem L_X7_flooded_51_ok (d : Nat) (res : Int64 × am_X) : ∀ (n : Nat) (v3 : Int64) (v5 : Int64) (v7 : Int64) (v9 : Int64) (v11 : Int32) (x : am_X), L_X7_flooded_51 n v3 v5 v7 v9 v11 x = some res → am_Rr (d + 3) kX7_flooded (51, [some (.ref 0), none, none, some (.long v3), none, some (.long v5), none, some (.long v7), none, some (.long v9), none, some (.int v11)], [], x) (fun ro y => ro = some (.long res.1) ∧ res.2 = y) := by
  intro n
  induction n with
  | zero =>
    intro v3 v5 v7 v9 v11 x hF
    cases hF
  | succ n ih =>
    intro v3 v5 v7 v9 v11 x hF
    rw [L_X7_flooded_51] at hF
    refine am_Rr.go 3 (σ' := (if (36 : Int32) ≤ v11 then 97 else 58, [some (.ref 0), none, none, some (.long v3), none, some (.long v5), none, some (.long v7), none, some (.long v9), none, some (.int v11)], [], x)) rfl ?_
    refine am_Rr.ite (fun h1 => ?_) (fun h1 => ?_)
    · rw [if_pos h1] at hF
      refine am_Rr.go 1 (σ' := (99, [some (.ref 0), none, none, some (.long v3), none, some (.long v5), none, some (.long v7), none, some (.long v9), none, some (.int v11)], [.long v7], x)) rfl ?_
      obtain rfl := Option.some.inj hF
      exact am_Rr.ret (v := some (.long v7)) (x := x) rfl (by trivial) ⟨rfl, rfl⟩
    · rw [if_neg h1] at hF
      refine am_Rr.go 4 (σ' := (if (lg_cmp v9 0) = 0 then 97 else 65, [some (.ref 0), none, none, some (.long v3), none, some (.long v5), none, some (.long v7), none, some (.long v9), none, some (.int v11)], [], x)) rfl ?_
      refine am_Rr.ite (fun h2 => ?_) (fun h2 => ?_)
      · rw [if_pos h2] at hF
        refine am_Rr.go 1 (σ' := (99, [some (.ref 0), none, none, some (.long v3), none, some (.long v5), none, some (.long v7), none, some (.long v9), none, some (.int v11)], [.long v7], x)) rfl ?_
        obtain rfl := Option.some.inj hF
        exact am_Rr.ret (v := some (.long v7)) (x := x) rfl (by trivial) ⟨rfl, rfl⟩
      · rw [if_neg h2] at hF
        refine am_Rr.go 3 (σ' := (70, [some (.ref 0), none, none, some (.long v3), none, some (.long v5), none, some (.long v7), none, some (.long v9), none, some (.int v11)], [.long (v9 &&& v5)], x)) rfl ?_
        refine am_Rr.call (pc := 73) (ls := [some (.ref 0), none, none, some (.long v3), none, some (.long v5), none, some (.long v7), none, some (.long v9), none, some (.int v11)]) (st := []) rfl (S_beside d (v9 &&& v5) x) ?_
        rintro _ _ ⟨rfl, rfl⟩
        show am_Rr _ _ (73, [some (.ref 0), none, none, some (.long v3), none, some (.long v5), none, some (.long v7), none, some (.long v9), none, some (.int v11)], [.long (am_bes (v9 &&& v5))], x) _
        refine am_Rr.go 13 (σ' := (51, [some (.ref 0), none, none, some (.long v3), none, some (.long v5), none, some (.long (v7 ||| (((am_bes (v9 &&& v5)) &&& v3) &&& (v7 ^^^ (-1))))), none, some (.long (((am_bes (v9 &&& v5)) &&& v3) &&& (v7 ^^^ (-1)))), none, some (.int (v11 + 1))], [], x)) rfl ?_
        exact ih _ _ _ _ _ _ hF
noncomputable def G_X7_flooded (w : Int64) (x : am_X) : Option (Int64 × am_X) := L_X7_flooded_51 1000 ((am_open (x.2.2.2 2)) &&& (w ^^^ (-1))) (((am_open (x.2.2.2 2)) &&& (w ^^^ (-1))) &&& ((am_sqo (x.2.2.2 2) (5 : Int32)) ^^^ (-1))) ((am_bit (x.1 36)) &&& ((am_open (x.2.2.2 2)) &&& (w ^^^ (-1)))) ((am_bit (x.1 36)) &&& ((am_open (x.2.2.2 2)) &&& (w ^^^ (-1)))) (0 : Int32) x
theorem A_X7_flooded (d : Nat) {w : Int64} {x : am_X} {res : Int64 × am_X} (hF : G_X7_flooded w x = some res) : am_T (d + 4) mX7_flooded [.ref 0, .long w] x (fun ro y => ro = some (.long res.1) ∧ res.2 = y) := by
  refine am_T.of rfl ?_
  show am_Rr (d + 3) kX7_flooded (0, [some (.ref 0), some (.long w), none, none, none, none, none, none, none, none, none, none], [], x) _
  unfold G_X7_flooded at hF
  refine am_Rr.go 2 (σ' := (4, [some (.ref 0), some (.long w), none, none, none, none, none, none, none, none, none, none], [.ref 1], x)) rfl ?_
  refine am_Rr.call (pc := 7) (ls := [some (.ref 0), some (.long w), none, none, none, none, none, none, none, none, none, none]) (st := []) rfl (S_open_1 d  x) ?_
  rintro _ _ ⟨rfl, rfl⟩
  show am_Rr _ _ (7, [some (.ref 0), some (.long w), none, none, none, none, none, none, none, none, none, none], [.long (am_open (x.2.2.2 2))], x) _
  refine am_Rr.go 9 (σ' := (20, [some (.ref 0), some (.long w), none, some (.long ((am_open (x.2.2.2 2)) &&& (w ^^^ (-1)))), none, none, none, none, none, none, none, none], [.int 5, .ref 1, .long ((am_open (x.2.2.2 2)) &&& (w ^^^ (-1)))], x)) rfl ?_
  refine am_Rr.call (pc := 23) (ls := [some (.ref 0), some (.long w), none, some (.long ((am_open (x.2.2.2 2)) &&& (w ^^^ (-1)))), none, none, none, none, none, none, none, none]) (st := [.long ((am_open (x.2.2.2 2)) &&& (w ^^^ (-1)))]) rfl (S_squaresOf_1 (d + 1) (5 : Int32) x) ?_
  rintro _ _ ⟨rfl, rfl⟩
  show am_Rr _ _ (23, [some (.ref 0), some (.long w), none, some (.long ((am_open (x.2.2.2 2)) &&& (w ^^^ (-1)))), none, none, none, none, none, none, none, none], [.long (am_sqo (x.2.2.2 2) (5 : Int32)), .long ((am_open (x.2.2.2 2)) &&& (w ^^^ (-1)))], x) _
  refine am_Rr.go 7 (σ' := (37, [some (.ref 0), some (.long w), none, some (.long ((am_open (x.2.2.2 2)) &&& (w ^^^ (-1)))), none, some (.long (((am_open (x.2.2.2 2)) &&& (w ^^^ (-1))) &&& ((am_sqo (x.2.2.2 2) (5 : Int32)) ^^^ (-1)))), none, none, none, none, none, none], [.int (x.1 36)], x)) rfl ?_
  refine am_Rr.call (pc := 40) (ls := [some (.ref 0), some (.long w), none, some (.long ((am_open (x.2.2.2 2)) &&& (w ^^^ (-1)))), none, some (.long (((am_open (x.2.2.2 2)) &&& (w ^^^ (-1))) &&& ((am_sqo (x.2.2.2 2) (5 : Int32)) ^^^ (-1)))), none, none, none, none, none, none]) (st := []) rfl (S_bit d (x.1 36) x) ?_
  rintro _ _ ⟨rfl, rfl⟩
  show am_Rr _ _ (40, [some (.ref 0), some (.long w), none, some (.long ((am_open (x.2.2.2 2)) &&& (w ^^^ (-1)))), none, some (.long (((am_open (x.2.2.2 2)) &&& (w ^^^ (-1))) &&& ((am_sqo (x.2.2.2 2) (5 : Int32)) ^^^ (-1)))), none, none, none, none, none, none], [.long (am_bit (x.1 36))], x) _
  refine am_Rr.go 7 (σ' := (51, [some (.ref 0), some (.long w), none, some (.long ((am_open (x.2.2.2 2)) &&& (w ^^^ (-1)))), none, some (.long (((am_open (x.2.2.2 2)) &&& (w ^^^ (-1))) &&& ((am_sqo (x.2.2.2 2) (5 : Int32)) ^^^ (-1)))), none, some (.long ((am_bit (x.1 36)) &&& ((am_open (x.2.2.2 2)) &&& (w ^^^ (-1))))), none, some (.long ((am_bit (x.1 36)) &&& ((am_open (x.2.2.2 2)) &&& (w ^^^ (-1))))), none, some (.int 0)], [], x)) rfl ?_
  refine am_Rr.weak (ls0 := [some (.ref 0), none, none, some (.long ((am_open (x.2.2.2 2)) &&& (w ^^^ (-1)))), none, some (.long (((am_open (x.2.2.2 2)) &&& (w ^^^ (-1))) &&& ((am_sqo (x.2.2.2 2) (5 : Int32)) ^^^ (-1)))), none, some (.long ((am_bit (x.1 36)) &&& ((am_open (x.2.2.2 2)) &&& (w ^^^ (-1))))), none, some (.long ((am_bit (x.1 36)) &&& ((am_open (x.2.2.2 2)) &&& (w ^^^ (-1))))), none, some (.int 0)]) (by simp [am_le]) ?_
  exact L_X7_flooded_51_ok d res _ _ _ _ _ _ _ hF
noncomputable def L_X7_gapsOfBits_8 : Nat → Int32 → Int64 → Int64 → Int32 → am_X → Option (Int64 × am_X)
  | 0, _, _, _, _, _ => none
  | n + 1, v2, v3, v5, v7, x => (if (10 : Int32) ≤ v7 then some (v3, x) else (if ((v2 >>> (v7 &&& 31)) &&& 1) = 0 then L_X7_gapsOfBits_8 n v2 v3 (v5 ^^^ (v5 &&& (-v5))) (v7 + 1) x else L_X7_gapsOfBits_8 n v2 (v3 ||| (v5 &&& (-v5))) (v5 ^^^ (v5 &&& (-v5))) (v7 + 1) x))
theorem L_X7_gapsOfBits_8_ok (d : Nat) (res : Int64 × am_X) : ∀ (n : Nat) (v2 : Int32) (v3 : Int64) (v5 : Int64) (v7 : Int32) (x : am_X), L_X7_gapsOfBits_8 n v2 v3 v5 v7 x = some res → am_Rr (d + 1) kX7_gapsOfBits (8, [none, none, some (.int v2), some (.long v3), none, some (.long v5), none, some (.int v7), none, none], [], x) (fun ro y => ro = some (.long res.1) ∧ res.2 = y) := by
  intro n
  induction n with
  | zero =>
    intro v2 v3 v5 v7 x hF
    cases hF
  | succ n ih =>
    intro v2 v3 v5 v7 x hF
    rw [L_X7_gapsOfBits_8] at hF
    refine am_Rr.go 3 (σ' := (if (10 : Int32) ≤ v7 then 50 else 15, [none, none, some (.int v2), some (.long v3), none, some (.long v5), none, some (.int v7), none, none], [], x)) rfl ?_
    refine am_Rr.ite (fun h1 => ?_) (fun h1 => ?_)
    · rw [if_pos h1] at hF
      refine am_Rr.go 1 (σ' := (51, [none, none, some (.int v2), some (.long v3), none, some (.long v5), none, some (.int v7), none, none], [.long v3], x)) rfl ?_
      obtain rfl := Option.some.inj hF
      exact am_Rr.ret (v := some (.long v3)) (x := x) rfl (by trivial) ⟨rfl, rfl⟩
    · rw [if_neg h1] at hF
      refine am_Rr.go 11 (σ' := (if ((v2 >>> (v7 &&& 31)) &&& 1) = 0 then 37 else 32, [none, none, some (.int v2), some (.long v3), none, some (.long v5), none, some (.int v7), some (.long (v5 &&& (-v5))), none], [], x)) rfl ?_
      refine am_Rr.ite (fun h2 => ?_) (fun h2 => ?_)
      · rw [if_pos h2] at hF
        refine am_Rr.go 6 (σ' := (8, [none, none, some (.int v2), some (.long v3), none, some (.long (v5 ^^^ (v5 &&& (-v5)))), none, some (.int (v7 + 1)), some (.long (v5 &&& (-v5))), none], [], x)) rfl ?_
        refine am_Rr.weak (ls0 := [none, none, some (.int v2), some (.long v3), none, some (.long (v5 ^^^ (v5 &&& (-v5)))), none, some (.int (v7 + 1)), none, none]) (by simp [am_le]) ?_
        exact ih _ _ _ _ _ hF
      · rw [if_neg h2] at hF
        refine am_Rr.go 10 (σ' := (8, [none, none, some (.int v2), some (.long (v3 ||| (v5 &&& (-v5)))), none, some (.long (v5 ^^^ (v5 &&& (-v5)))), none, some (.int (v7 + 1)), some (.long (v5 &&& (-v5))), none], [], x)) rfl ?_
        refine am_Rr.weak (ls0 := [none, none, some (.int v2), some (.long (v3 ||| (v5 &&& (-v5)))), none, some (.long (v5 ^^^ (v5 &&& (-v5)))), none, some (.int (v7 + 1)), none, none]) (by simp [am_le]) ?_
        exact ih _ _ _ _ _ hF
noncomputable def G_X7_gapsOfBits (w : Int64) (a : Int32) (x : am_X) : Option (Int64 × am_X) := L_X7_gapsOfBits_8 11 a (0 : Int64) w (0 : Int32) x
theorem A_X7_gapsOfBits (d : Nat) {w : Int64} {a : Int32} {x : am_X} {res : Int64 × am_X} (hF : G_X7_gapsOfBits w a x = some res) : am_T (d + 2) mX7_gapsOfBits [.long w, .int a] x (fun ro y => ro = some (.long res.1) ∧ res.2 = y) := by
  refine am_T.of rfl ?_
  show am_Rr (d + 1) kX7_gapsOfBits (0, [some (.long w), none, some (.int a), none, none, none, none, none, none, none], [], x) _
  unfold G_X7_gapsOfBits at hF
  refine am_Rr.go 6 (σ' := (8, [some (.long w), none, some (.int a), some (.long 0), none, some (.long w), none, some (.int 0), none, none], [], x)) rfl ?_
  refine am_Rr.weak (ls0 := [none, none, some (.int a), some (.long 0), none, some (.long w), none, some (.int 0), none, none]) (by simp [am_le]) ?_
  exact L_X7_gapsOfBits_8_ok d res _ _ _ _ _ _ hF
noncomputable def G_X7_getsOut (w : Int64) (x : am_X) : Option (Int32 × am_X) := (match G_X7_flooded w x with | none => none | some (r1, x2) => (if (lg_cmp (r1 &&& (am_sqo (x2.2.2.2 2) (5 : Int32))) 0) = 0 then some ((0 : Int32), x2) else some ((1 : Int32), x2)))
theorem A_X7_getsOut (d : Nat) {w : Int64} {x : am_X} {res : Int32 × am_X} (hF : G_X7_getsOut w x = some res) : am_T (d + 5) mX7_getsOut [.ref 0, .long w] x (fun ro y => ro = some (.int res.1) ∧ res.2 = y) := by
  refine am_T.of rfl ?_
  show am_Rr (d + 4) kX7_getsOut (0, [some (.ref 0), some (.long w), none], [], x) _
  unfold G_X7_getsOut at hF
  refine am_Rr.go 2 (σ' := (2, [some (.ref 0), some (.long w), none], [.long w, .ref 0], x)) rfl ?_
  cases g3 : G_X7_flooded w x with
  | none => rw [g3] at hF; cases hF
  | some q_ =>
    obtain ⟨r1, x2⟩ := q_
    rw [g3] at hF
    dsimp only at hF
    refine am_Rr.call (pc := 5) (ls := [some (.ref 0), some (.long w), none]) (st := []) rfl (A_X7_flooded d g3) ?_
    rintro _ _ ⟨rfl, rfl⟩
    show am_Rr _ _ (5, [some (.ref 0), some (.long w), none], [.long r1], x2) _
    refine am_Rr.go 3 (σ' := (10, [some (.ref 0), some (.long w), none], [.int 5, .ref 1, .long r1], x2)) rfl ?_
    refine am_Rr.call (pc := 13) (ls := [some (.ref 0), some (.long w), none]) (st := [.long r1]) rfl (S_squaresOf_1 (d + 2) (5 : Int32) x2) ?_
    rintro _ _ ⟨rfl, rfl⟩
    show am_Rr _ _ (13, [some (.ref 0), some (.long w), none], [.long (am_sqo (x2.2.2.2 2) (5 : Int32)), .long r1], x2) _
    refine am_Rr.go 4 (σ' := (if (lg_cmp (r1 &&& (am_sqo (x2.2.2.2 2) (5 : Int32))) 0) = 0 then 23 else 19, [some (.ref 0), some (.long w), none], [], x2)) rfl ?_
    refine am_Rr.ite (fun h4 => ?_) (fun h4 => ?_)
    · rw [if_pos h4] at hF
      refine am_Rr.go 1 (σ' := (24, [some (.ref 0), some (.long w), none], [.int 0], x2)) rfl ?_
      obtain rfl := Option.some.inj hF
      exact am_Rr.ret (v := some (.int 0)) (x := x2) rfl (by first | exact Or.inl rfl | exact Or.inr rfl | assumption) ⟨rfl, rfl⟩
    · rw [if_neg h4] at hF
      refine am_Rr.go 2 (σ' := (24, [some (.ref 0), some (.long w), none], [.int 1], x2)) rfl ?_
      obtain rfl := Option.some.inj hF
      exact am_Rr.ret (v := some (.int 1)) (x := x2) rfl (by first | exact Or.inl rfl | exact Or.inr rfl | assumption) ⟨rfl, rfl⟩
noncomputable def L_X7_shut_28 : Nat → Int64 → Int32 → Int32 → Int32 → am_X → Option (Int32 × am_X)
  | 0, _, _, _, _, _ => none
  | n + 1, v1, v3, v4, v5, x => (if v3 ≤ v5 then some (v4, x) else (if v4 < 0 then (match G_X7_gapsOfBits v1 v5 x with | none => none | some (r3, x4) => (match G_X7_getsOut r3 x4 with | none => none | some (r6, x7) => (if r6 = 0 then L_X7_shut_28 n v1 v3 v5 (v5 + 1) x7 else L_X7_shut_28 n v1 v3 v4 (v5 + 1) x7))) else (if (am_ib v4) ≤ (am_ib v5) then L_X7_shut_28 n v1 v3 v4 (v5 + 1) x else (match G_X7_gapsOfBits v1 v5 x with | none => none | some (r11, x12) => (match G_X7_getsOut r11 x12 with | none => none | some (r14, x15) => (if r14 = 0 then L_X7_shut_28 n v1 v3 v5 (v5 + 1) x15 else L_X7_shut_28 n v1 v3 v4 (v5 + 1) x15))))))
theorem L_X7_shut_28_ok (d : Nat) (res : Int32 × am_X) : ∀ (n : Nat) (v1 : Int64) (v3 : Int32) (v4 : Int32) (v5 : Int32) (x : am_X), L_X7_shut_28 n v1 v3 v4 v5 x = some res → am_Rr (d + 5) kX7_shut (28, [some (.ref 0), some (.long v1), none, some (.int v3), some (.int v4), some (.int v5), none], [], x) (fun ro y => ro = some (.int res.1) ∧ res.2 = y) := by
  intro n
  induction n with
  | zero =>
    intro v1 v3 v4 v5 x hF
    cases hF
  | succ n ih =>
    intro v1 v3 v4 v5 x hF
    rw [L_X7_shut_28] at hF
    refine am_Rr.go 3 (σ' := (if v3 ≤ v5 then 87 else 34, [some (.ref 0), some (.long v1), none, some (.int v3), some (.int v4), some (.int v5), none], [], x)) rfl ?_
    refine am_Rr.ite (fun h1 => ?_) (fun h1 => ?_)
    · rw [if_pos h1] at hF
      refine am_Rr.go 1 (σ' := (89, [some (.ref 0), some (.long v1), none, some (.int v3), some (.int v4), some (.int v5), none], [.int v4], x)) rfl ?_
      obtain rfl := Option.some.inj hF
      exact am_Rr.ret (v := some (.int v4)) (x := x) rfl (by trivial) ⟨rfl, rfl⟩
    · rw [if_neg h1] at hF
      refine am_Rr.go 2 (σ' := (if v4 < 0 then 52 else 39, [some (.ref 0), some (.long v1), none, some (.int v3), some (.int v4), some (.int v5), none], [], x)) rfl ?_
      refine am_Rr.ite (fun h2 => ?_) (fun h2 => ?_)
      · rw [if_pos h2] at hF
        refine am_Rr.go 8 (σ' := (68, [some (.ref 0), some (.long v1), none, some (.int v3), some (.int v4), some (.int v5), some (.int 1)], [.int v5, .long v1, .ref 0], x)) rfl ?_
        cases g5 : G_X7_gapsOfBits v1 v5 x with
        | none => rw [g5] at hF; cases hF
        | some q_ =>
          obtain ⟨r3, x4⟩ := q_
          rw [g5] at hF
          dsimp only at hF
          refine am_Rr.call (pc := 71) (ls := [some (.ref 0), some (.long v1), none, some (.int v3), some (.int v4), some (.int v5), some (.int 1)]) (st := [.ref 0]) rfl (A_X7_gapsOfBits (d + 3) g5) ?_
          rintro _ _ ⟨rfl, rfl⟩
          show am_Rr _ _ (71, [some (.ref 0), some (.long v1), none, some (.int v3), some (.int v4), some (.int v5), some (.int 1)], [.long r3, .ref 0], x4) _
          cases g8 : G_X7_getsOut r3 x4 with
          | none => rw [g8] at hF; cases hF
          | some q_ =>
            obtain ⟨r6, x7⟩ := q_
            rw [g8] at hF
            dsimp only at hF
            refine am_Rr.call (pc := 74) (ls := [some (.ref 0), some (.long v1), none, some (.int v3), some (.int v4), some (.int v5), some (.int 1)]) (st := []) rfl (A_X7_getsOut d g8) ?_
            rintro _ _ ⟨rfl, rfl⟩
            show am_Rr _ _ (74, [some (.ref 0), some (.long v1), none, some (.int v3), some (.int v4), some (.int v5), some (.int 1)], [.int r6], x7) _
            refine am_Rr.go 1 (σ' := (if r6 = 0 then 77 else 81, [some (.ref 0), some (.long v1), none, some (.int v3), some (.int v4), some (.int v5), some (.int 1)], [], x7)) rfl ?_
            refine am_Rr.ite (fun h9 => ?_) (fun h9 => ?_)
            · rw [if_pos h9] at hF
              refine am_Rr.go 4 (σ' := (28, [some (.ref 0), some (.long v1), none, some (.int v3), some (.int v5), some (.int (v5 + 1)), some (.int 1)], [], x7)) rfl ?_
              refine am_Rr.weak (ls0 := [some (.ref 0), some (.long v1), none, some (.int v3), some (.int v5), some (.int (v5 + 1)), none]) (by simp [am_le]) ?_
              exact ih _ _ _ _ _ hF
            · rw [if_neg h9] at hF
              refine am_Rr.go 2 (σ' := (28, [some (.ref 0), some (.long v1), none, some (.int v3), some (.int v4), some (.int (v5 + 1)), some (.int 1)], [], x7)) rfl ?_
              refine am_Rr.weak (ls0 := [some (.ref 0), some (.long v1), none, some (.int v3), some (.int v4), some (.int (v5 + 1)), none]) (by simp [am_le]) ?_
              exact ih _ _ _ _ _ hF
      · rw [if_neg h2] at hF
        refine am_Rr.go 1 (σ' := (41, [some (.ref 0), some (.long v1), none, some (.int v3), some (.int v4), some (.int v5), none], [.int v5], x)) rfl ?_
        refine am_Rr.call (pc := 44) (ls := [some (.ref 0), some (.long v1), none, some (.int v3), some (.int v4), some (.int v5), none]) (st := []) rfl (S_bitCountI (d + 3) v5 x) ?_
        rintro _ _ ⟨rfl, rfl⟩
        show am_Rr _ _ (44, [some (.ref 0), some (.long v1), none, some (.int v3), some (.int v4), some (.int v5), none], [.int (am_ib v5)], x) _
        refine am_Rr.go 1 (σ' := (46, [some (.ref 0), some (.long v1), none, some (.int v3), some (.int v4), some (.int v5), none], [.int v4, .int (am_ib v5)], x)) rfl ?_
        refine am_Rr.call (pc := 49) (ls := [some (.ref 0), some (.long v1), none, some (.int v3), some (.int v4), some (.int v5), none]) (st := [.int (am_ib v5)]) rfl (S_bitCountI (d + 3) v4 x) ?_
        rintro _ _ ⟨rfl, rfl⟩
        show am_Rr _ _ (49, [some (.ref 0), some (.long v1), none, some (.int v3), some (.int v4), some (.int v5), none], [.int (am_ib v4), .int (am_ib v5)], x) _
        refine am_Rr.go 1 (σ' := (if (am_ib v4) ≤ (am_ib v5) then 56 else 52, [some (.ref 0), some (.long v1), none, some (.int v3), some (.int v4), some (.int v5), none], [], x)) rfl ?_
        refine am_Rr.ite (fun h10 => ?_) (fun h10 => ?_)
        · rw [if_pos h10] at hF
          refine am_Rr.go 6 (σ' := (28, [some (.ref 0), some (.long v1), none, some (.int v3), some (.int v4), some (.int (v5 + 1)), some (.int 0)], [], x)) rfl ?_
          refine am_Rr.weak (ls0 := [some (.ref 0), some (.long v1), none, some (.int v3), some (.int v4), some (.int (v5 + 1)), none]) (by simp [am_le]) ?_
          exact ih _ _ _ _ _ hF
        · rw [if_neg h10] at hF
          refine am_Rr.go 8 (σ' := (68, [some (.ref 0), some (.long v1), none, some (.int v3), some (.int v4), some (.int v5), some (.int 1)], [.int v5, .long v1, .ref 0], x)) rfl ?_
          cases g13 : G_X7_gapsOfBits v1 v5 x with
          | none => rw [g13] at hF; cases hF
          | some q_ =>
            obtain ⟨r11, x12⟩ := q_
            rw [g13] at hF
            dsimp only at hF
            refine am_Rr.call (pc := 71) (ls := [some (.ref 0), some (.long v1), none, some (.int v3), some (.int v4), some (.int v5), some (.int 1)]) (st := [.ref 0]) rfl (A_X7_gapsOfBits (d + 3) g13) ?_
            rintro _ _ ⟨rfl, rfl⟩
            show am_Rr _ _ (71, [some (.ref 0), some (.long v1), none, some (.int v3), some (.int v4), some (.int v5), some (.int 1)], [.long r11, .ref 0], x12) _
            cases g16 : G_X7_getsOut r11 x12 with
            | none => rw [g16] at hF; cases hF
            | some q_ =>
              obtain ⟨r14, x15⟩ := q_
              rw [g16] at hF
              dsimp only at hF
              refine am_Rr.call (pc := 74) (ls := [some (.ref 0), some (.long v1), none, some (.int v3), some (.int v4), some (.int v5), some (.int 1)]) (st := []) rfl (A_X7_getsOut d g16) ?_
              rintro _ _ ⟨rfl, rfl⟩
              show am_Rr _ _ (74, [some (.ref 0), some (.long v1), none, some (.int v3), some (.int v4), some (.int v5), some (.int 1)], [.int r14], x15) _
              refine am_Rr.go 1 (σ' := (if r14 = 0 then 77 else 81, [some (.ref 0), some (.long v1), none, some (.int v3), some (.int v4), some (.int v5), some (.int 1)], [], x15)) rfl ?_
              refine am_Rr.ite (fun h17 => ?_) (fun h17 => ?_)
              · rw [if_pos h17] at hF
                refine am_Rr.go 4 (σ' := (28, [some (.ref 0), some (.long v1), none, some (.int v3), some (.int v5), some (.int (v5 + 1)), some (.int 1)], [], x15)) rfl ?_
                refine am_Rr.weak (ls0 := [some (.ref 0), some (.long v1), none, some (.int v3), some (.int v5), some (.int (v5 + 1)), none]) (by simp [am_le]) ?_
                exact ih _ _ _ _ _ hF
              · rw [if_neg h17] at hF
                refine am_Rr.go 2 (σ' := (28, [some (.ref 0), some (.long v1), none, some (.int v3), some (.int v4), some (.int (v5 + 1)), some (.int 1)], [], x15)) rfl ?_
                refine am_Rr.weak (ls0 := [some (.ref 0), some (.long v1), none, some (.int v3), some (.int v4), some (.int (v5 + 1)), none]) (by simp [am_le]) ?_
                exact ih _ _ _ _ _ hF
noncomputable def G_X7_shut  (x : am_X) : Option (Int32 × am_X) := L_X7_shut_28 1100 (am_sqo (x.2.2.2 2) (2 : Int32)) ((1 : Int32) <<< ((if (am_bc (am_sqo (x.2.2.2 2) (2 : Int32))) < 10 then (am_bc (am_sqo (x.2.2.2 2) (2 : Int32))) else 10) &&& 31)) (-9 : Int32) (0 : Int32) x
theorem A_X7_shut (d : Nat)  {x : am_X} {res : Int32 × am_X} (hF : G_X7_shut  x = some res) : am_T (d + 6) mX7_shut [.ref 0] x (fun ro y => ro = some (.int res.1) ∧ res.2 = y) := by
  refine am_T.of rfl ?_
  show am_Rr (d + 5) kX7_shut (0, [some (.ref 0), none, none, none, none, none, none], [], x) _
  unfold G_X7_shut at hF
  refine am_Rr.go 3 (σ' := (5, [some (.ref 0), none, none, none, none, none, none], [.int 2, .ref 1], x)) rfl ?_
  refine am_Rr.call (pc := 8) (ls := [some (.ref 0), none, none, none, none, none, none]) (st := []) rfl (S_squaresOf_1 (d + 3) (2 : Int32) x) ?_
  rintro _ _ ⟨rfl, rfl⟩
  show am_Rr _ _ (8, [some (.ref 0), none, none, none, none, none, none], [.long (am_sqo (x.2.2.2 2) (2 : Int32))], x) _
  refine am_Rr.go 4 (σ' := (13, [some (.ref 0), some (.long (am_sqo (x.2.2.2 2) (2 : Int32))), none, none, none, none, none], [.long (am_sqo (x.2.2.2 2) (2 : Int32)), .int 10, .int 1], x)) rfl ?_
  refine am_Rr.call (pc := 16) (ls := [some (.ref 0), some (.long (am_sqo (x.2.2.2 2) (2 : Int32))), none, none, none, none, none]) (st := [.int 10, .int 1]) rfl (S_bitCountJ (d + 3) (am_sqo (x.2.2.2 2) (2 : Int32)) x) ?_
  rintro _ _ ⟨rfl, rfl⟩
  show am_Rr _ _ (16, [some (.ref 0), some (.long (am_sqo (x.2.2.2 2) (2 : Int32))), none, none, none, none, none], [.int (am_bc (am_sqo (x.2.2.2 2) (2 : Int32))), .int 10, .int 1], x) _
  refine am_Rr.go 7 (σ' := (28, [some (.ref 0), some (.long (am_sqo (x.2.2.2 2) (2 : Int32))), none, some (.int ((1 : Int32) <<< ((if (am_bc (am_sqo (x.2.2.2 2) (2 : Int32))) < 10 then (am_bc (am_sqo (x.2.2.2 2) (2 : Int32))) else 10) &&& 31))), some (.int (-9)), some (.int 0), none], [], x)) rfl ?_
  exact L_X7_shut_28_ok d res _ _ _ _ _ _ hF
