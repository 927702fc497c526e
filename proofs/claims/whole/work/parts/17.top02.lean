noncomputable def G_X7_turnTo (a : Int32) (b : Int32) (x : am_X) : Option (Int32 × am_X) := (if am_sq a then (if b < 0 then (match G_X7_refused (-2 : Int32) x with | none => none | some (r3, x4) => some (r3, x4)) else (if b < 6 then (if (am_sq a ∧ am_sq a ∧ a.toInt ≤ a.toInt ∧ 0 ≤ b.toInt ∧ b.toInt < 6 ∧ ¬ (b.toInt = 1 ∧ a.toInt ≤ (x.1 36).toInt ∧ (x.1 36).toInt ≤ a.toInt)) then some ((am_kat (x.2.2.2 2) a), (am_lay1 x b a a)) else (match G_X7_refused (-3 : Int32) x with | none => none | some (r9, x10) => some (r9, x10))) else (match G_X7_refused (-2 : Int32) x with | none => none | some (r12, x13) => some (r12, x13)))) else (match G_X7_refused (-1 : Int32) x with | none => none | some (r15, x16) => some (r15, x16)))
theorem A_X7_turnTo (d : Nat) {a : Int32} {b : Int32} {x : am_X} {res : Int32 × am_X} (hF : G_X7_turnTo a b x = some res) : am_T (d + 6) mX7_turnTo [.ref 0, .int a, .int b] x (fun ro y => ro = some (.int res.1) ∧ res.2 = y) := by
  refine am_T.of rfl ?_
  show am_Rr (d + 5) kX7_turnTo (0, [some (.ref 0), some (.int a), some (.int b), none], [], x) _
  unfold G_X7_turnTo at hF
  refine am_Rr.go 1 (σ' := (1, [some (.ref 0), some (.int a), some (.int b), none], [.int a], x)) rfl ?_
  refine am_Rr.call (pc := 4) (ls := [some (.ref 0), some (.int a), some (.int b), none]) (st := []) rfl (S_isSquare (d + 3) a x) ?_
  rintro _ _ ⟨rfl, (⟨rfl, b1⟩ | ⟨rfl, b1⟩)⟩
  · rw [if_pos b1] at hF
    show am_Rr _ _ (4, [some (.ref 0), some (.int a), some (.int b), none], [.int 1], x) _
    refine am_Rr.go 3 (σ' := (if b < 0 then 23 else 17, [some (.ref 0), some (.int a), some (.int b), none], [], x)) rfl ?_
    refine am_Rr.ite (fun h2 => ?_) (fun h2 => ?_)
    · rw [if_pos h2] at hF
      refine am_Rr.go 2 (σ' := (26, [some (.ref 0), some (.int a), some (.int b), none], [.int (-2), .ref 0], x)) rfl ?_
      cases g5 : G_X7_refused (-2 : Int32) x with
      | none => rw [g5] at hF; cases hF
      | some q_ =>
        obtain ⟨r3, x4⟩ := q_
        rw [g5] at hF
        dsimp only at hF
        refine am_Rr.call (pc := 29) (ls := [some (.ref 0), some (.int a), some (.int b), none]) (st := []) rfl (A_X7_refused (d + 3) g5) ?_
        rintro _ _ ⟨rfl, rfl⟩
        show am_Rr _ _ (29, [some (.ref 0), some (.int a), some (.int b), none], [.int r3], x4) _
        obtain rfl := Option.some.inj hF
        exact am_Rr.ret (v := some (.int r3)) (x := x4) rfl (by trivial) ⟨rfl, rfl⟩
    · rw [if_neg h2] at hF
      refine am_Rr.go 3 (σ' := (if b < 6 then 30 else 23, [some (.ref 0), some (.int a), some (.int b), none], [], x)) rfl ?_
      refine am_Rr.ite (fun h6 => ?_) (fun h6 => ?_)
      · rw [if_pos h6] at hF
        refine am_Rr.go 3 (σ' := (35, [some (.ref 0), some (.int a), some (.int b), none], [.int a, .ref 1], x)) rfl ?_
        refine am_Rr.call (pc := 38) (ls := [some (.ref 0), some (.int a), some (.int b), none]) (st := []) rfl (S_kindAt_1 d a x) ?_
        rintro _ _ ⟨rfl, rfl⟩
        show am_Rr _ _ (38, [some (.ref 0), some (.int a), some (.int b), none], [.int (am_kat (x.2.2.2 2) a)], x) _
        refine am_Rr.go 6 (σ' := (46, [some (.ref 0), some (.int a), some (.int b), some (.int (am_kat (x.2.2.2 2) a))], [.int a, .int a, .int b, .ref 1], x)) rfl ?_
        refine am_Rr.call (pc := 49) (ls := [some (.ref 0), some (.int a), some (.int b), some (.int (am_kat (x.2.2.2 2) a))]) (st := []) rfl (S_lay_1 (d + 2) b a a x) ?_
        rintro _ _ (⟨b7, rfl, rfl⟩ | ⟨b8, rfl, rfl⟩)
        · rw [if_pos b7] at hF
          show am_Rr _ _ (49, [some (.ref 0), some (.int a), some (.int b), some (.int (am_kat (x.2.2.2 2) a))], [.int 1], (am_lay1 x b a a)) _
          refine am_Rr.go 3 (σ' := (62, [some (.ref 0), some (.int a), some (.int b), some (.int (am_kat (x.2.2.2 2) a))], [.int (am_kat (x.2.2.2 2) a)], (am_lay1 x b a a))) rfl ?_
          obtain rfl := Option.some.inj hF
          exact am_Rr.ret (v := some (.int (am_kat (x.2.2.2 2) a))) (x := (am_lay1 x b a a)) rfl (by trivial) ⟨rfl, rfl⟩
        · rw [if_neg b8] at hF
          show am_Rr _ _ (49, [some (.ref 0), some (.int a), some (.int b), some (.int (am_kat (x.2.2.2 2) a))], [.int 0], x) _
          refine am_Rr.go 3 (σ' := (59, [some (.ref 0), some (.int a), some (.int b), some (.int (am_kat (x.2.2.2 2) a))], [.int (-3), .ref 0], x)) rfl ?_
          cases g11 : G_X7_refused (-3 : Int32) x with
          | none => rw [g11] at hF; cases hF
          | some q_ =>
            obtain ⟨r9, x10⟩ := q_
            rw [g11] at hF
            dsimp only at hF
            refine am_Rr.call (pc := 62) (ls := [some (.ref 0), some (.int a), some (.int b), some (.int (am_kat (x.2.2.2 2) a))]) (st := []) rfl (A_X7_refused (d + 3) g11) ?_
            rintro _ _ ⟨rfl, rfl⟩
            show am_Rr _ _ (62, [some (.ref 0), some (.int a), some (.int b), some (.int (am_kat (x.2.2.2 2) a))], [.int r9], x10) _
            obtain rfl := Option.some.inj hF
            exact am_Rr.ret (v := some (.int r9)) (x := x10) rfl (by trivial) ⟨rfl, rfl⟩
      · rw [if_neg h6] at hF
        refine am_Rr.go 2 (σ' := (26, [some (.ref 0), some (.int a), some (.int b), none], [.int (-2), .ref 0], x)) rfl ?_
        cases g14 : G_X7_refused (-2 : Int32) x with
        | none => rw [g14] at hF; cases hF
        | some q_ =>
          obtain ⟨r12, x13⟩ := q_
          rw [g14] at hF
          dsimp only at hF
          refine am_Rr.call (pc := 29) (ls := [some (.ref 0), some (.int a), some (.int b), none]) (st := []) rfl (A_X7_refused (d + 3) g14) ?_
          rintro _ _ ⟨rfl, rfl⟩
          show am_Rr _ _ (29, [some (.ref 0), some (.int a), some (.int b), none], [.int r12], x13) _
          obtain rfl := Option.some.inj hF
          exact am_Rr.ret (v := some (.int r12)) (x := x13) rfl (by trivial) ⟨rfl, rfl⟩
  · rw [if_neg b1] at hF
    show am_Rr _ _ (4, [some (.ref 0), some (.int a), some (.int b), none], [.int 0], x) _
    refine am_Rr.go 3 (σ' := (9, [some (.ref 0), some (.int a), some (.int b), none], [.int (-1), .ref 0], x)) rfl ?_
    cases g17 : G_X7_refused (-1 : Int32) x with
    | none => rw [g17] at hF; cases hF
    | some q_ =>
      obtain ⟨r15, x16⟩ := q_
      rw [g17] at hF
      dsimp only at hF
      refine am_Rr.call (pc := 12) (ls := [some (.ref 0), some (.int a), some (.int b), none]) (st := []) rfl (A_X7_refused (d + 3) g17) ?_
      rintro _ _ ⟨rfl, rfl⟩
      show am_Rr _ _ (12, [some (.ref 0), some (.int a), some (.int b), none], [.int r15], x16) _
      obtain rfl := Option.some.inj hF
      exact am_Rr.ret (v := some (.int r15)) (x := x16) rfl (by trivial) ⟨rfl, rfl⟩
noncomputable def G_X7_setHome (a : Int32) (x : am_X) : Option (Int32 × am_X) := (if am_sq a then (if am_hasb (am_open (x.2.2.2 2)) a then some ((x.1 36), (am_uI x 36 a)) else (match G_X7_refused (-3 : Int32) x with | none => none | some (r4, x5) => some (r4, x5))) else (match G_X7_refused (-1 : Int32) x with | none => none | some (r7, x8) => some (r7, x8)))
theorem A_X7_setHome (d : Nat) {a : Int32} {x : am_X} {res : Int32 × am_X} (hF : G_X7_setHome a x = some res) : am_T (d + 6) mX7_setHome [.ref 0, .int a] x (fun ro y => ro = some (.int res.1) ∧ res.2 = y) := by
  refine am_T.of rfl ?_
  show am_Rr (d + 5) kX7_setHome (0, [some (.ref 0), some (.int a), none], [], x) _
  unfold G_X7_setHome at hF
  refine am_Rr.go 1 (σ' := (1, [some (.ref 0), some (.int a), none], [.int a], x)) rfl ?_
  refine am_Rr.call (pc := 4) (ls := [some (.ref 0), some (.int a), none]) (st := []) rfl (S_isSquare (d + 3) a x) ?_
  rintro _ _ ⟨rfl, (⟨rfl, b1⟩ | ⟨rfl, b1⟩)⟩
  · rw [if_pos b1] at hF
    show am_Rr _ _ (4, [some (.ref 0), some (.int a), none], [.int 1], x) _
    refine am_Rr.go 8 (σ' := (26, [some (.ref 0), some (.int a), some (.int (x.1 36))], [.int a, .ref 1], x)) rfl ?_
    refine am_Rr.call (pc := 29) (ls := [some (.ref 0), some (.int a), some (.int (x.1 36))]) (st := []) rfl (S_liveAt_1 d a x) ?_
    rintro _ _ (⟨b2, rfl, rfl⟩ | ⟨b3, rfl, rfl⟩)
    · rw [if_pos b2] at hF
      show am_Rr _ _ (29, [some (.ref 0), some (.int a), some (.int (x.1 36))], [.int 1], (am_uI x 36 a)) _
      refine am_Rr.go 3 (σ' := (42, [some (.ref 0), some (.int a), some (.int (x.1 36))], [.int (x.1 36)], (am_uI x 36 a))) rfl ?_
      obtain rfl := Option.some.inj hF
      exact am_Rr.ret (v := some (.int (x.1 36))) (x := (am_uI x 36 a)) rfl (by trivial) ⟨rfl, rfl⟩
    · rw [if_neg b3] at hF
      show am_Rr _ _ (29, [some (.ref 0), some (.int a), some (.int (x.1 36))], [.int 0], x) _
      refine am_Rr.go 3 (σ' := (39, [some (.ref 0), some (.int a), some (.int (x.1 36))], [.int (-3), .ref 0], x)) rfl ?_
      cases g6 : G_X7_refused (-3 : Int32) x with
      | none => rw [g6] at hF; cases hF
      | some q_ =>
        obtain ⟨r4, x5⟩ := q_
        rw [g6] at hF
        dsimp only at hF
        refine am_Rr.call (pc := 42) (ls := [some (.ref 0), some (.int a), some (.int (x.1 36))]) (st := []) rfl (A_X7_refused (d + 3) g6) ?_
        rintro _ _ ⟨rfl, rfl⟩
        show am_Rr _ _ (42, [some (.ref 0), some (.int a), some (.int (x.1 36))], [.int r4], x5) _
        obtain rfl := Option.some.inj hF
        exact am_Rr.ret (v := some (.int r4)) (x := x5) rfl (by trivial) ⟨rfl, rfl⟩
  · rw [if_neg b1] at hF
    show am_Rr _ _ (4, [some (.ref 0), some (.int a), none], [.int 0], x) _
    refine am_Rr.go 3 (σ' := (9, [some (.ref 0), some (.int a), none], [.int (-1), .ref 0], x)) rfl ?_
    cases g9 : G_X7_refused (-1 : Int32) x with
    | none => rw [g9] at hF; cases hF
    | some q_ =>
      obtain ⟨r7, x8⟩ := q_
      rw [g9] at hF
      dsimp only at hF
      refine am_Rr.call (pc := 12) (ls := [some (.ref 0), some (.int a), none]) (st := []) rfl (A_X7_refused (d + 3) g9) ?_
      rintro _ _ ⟨rfl, rfl⟩
      show am_Rr _ _ (12, [some (.ref 0), some (.int a), none], [.int r7], x8) _
      obtain rfl := Option.some.inj hF
      exact am_Rr.ret (v := some (.int r7)) (x := x8) rfl (by trivial) ⟨rfl, rfl⟩
noncomputable def G_X7_setPace (a : Int32) (x : am_X) : Option (Int32 × am_X) := (if (1 : Int32) ≤ a then (if 1 ≤ a.toInt ∧ a.toInt ≤ 9 then some ((x.1 37), (am_uI x 37 a)) else (match G_X7_refused (-6 : Int32) x with | none => none | some (r4, x5) => some (r4, x5))) else (match G_X7_refused (-4 : Int32) x with | none => none | some (r7, x8) => some (r7, x8)))
theorem A_X7_setPace (d : Nat) {a : Int32} {x : am_X} {res : Int32 × am_X} (hF : G_X7_setPace a x = some res) : am_T (d + 3) mX7_setPace [.ref 0, .int a] x (fun ro y => ro = some (.int res.1) ∧ res.2 = y) := by
  refine am_T.of rfl ?_
  show am_Rr (d + 2) kX7_setPace (0, [some (.ref 0), some (.int a), none], [], x) _
  unfold G_X7_setPace at hF
  refine am_Rr.go 3 (σ' := (if (1 : Int32) ≤ a then 12 else 5, [some (.ref 0), some (.int a), none], [], x)) rfl ?_
  refine am_Rr.ite (fun h1 => ?_) (fun h1 => ?_)
  · rw [if_pos h1] at hF
    refine am_Rr.go 7 (σ' := (25, [some (.ref 0), some (.int a), some (.int (x.1 37))], [.int a, .ref 1], x)) rfl ?_
    refine am_Rr.call (pc := 28) (ls := [some (.ref 0), some (.int a), some (.int (x.1 37))]) (st := []) rfl (S_takePace_1 d a x) ?_
    rintro _ _ (⟨b2, rfl, rfl⟩ | ⟨b3, rfl, rfl⟩)
    · rw [if_pos b2] at hF
      show am_Rr _ _ (28, [some (.ref 0), some (.int a), some (.int (x.1 37))], [.int 1], (am_uI x 37 a)) _
      refine am_Rr.go 3 (σ' := (41, [some (.ref 0), some (.int a), some (.int (x.1 37))], [.int (x.1 37)], (am_uI x 37 a))) rfl ?_
      obtain rfl := Option.some.inj hF
      exact am_Rr.ret (v := some (.int (x.1 37))) (x := (am_uI x 37 a)) rfl (by trivial) ⟨rfl, rfl⟩
    · rw [if_neg b3] at hF
      show am_Rr _ _ (28, [some (.ref 0), some (.int a), some (.int (x.1 37))], [.int 0], x) _
      refine am_Rr.go 3 (σ' := (38, [some (.ref 0), some (.int a), some (.int (x.1 37))], [.int (-6), .ref 0], x)) rfl ?_
      cases g6 : G_X7_refused (-6 : Int32) x with
      | none => rw [g6] at hF; cases hF
      | some q_ =>
        obtain ⟨r4, x5⟩ := q_
        rw [g6] at hF
        dsimp only at hF
        refine am_Rr.call (pc := 41) (ls := [some (.ref 0), some (.int a), some (.int (x.1 37))]) (st := []) rfl (A_X7_refused d g6) ?_
        rintro _ _ ⟨rfl, rfl⟩
        show am_Rr _ _ (41, [some (.ref 0), some (.int a), some (.int (x.1 37))], [.int r4], x5) _
        obtain rfl := Option.some.inj hF
        exact am_Rr.ret (v := some (.int r4)) (x := x5) rfl (by trivial) ⟨rfl, rfl⟩
  · rw [if_neg h1] at hF
    refine am_Rr.go 2 (σ' := (8, [some (.ref 0), some (.int a), none], [.int (-4), .ref 0], x)) rfl ?_
    cases g9 : G_X7_refused (-4 : Int32) x with
    | none => rw [g9] at hF; cases hF
    | some q_ =>
      obtain ⟨r7, x8⟩ := q_
      rw [g9] at hF
      dsimp only at hF
      refine am_Rr.call (pc := 11) (ls := [some (.ref 0), some (.int a), none]) (st := []) rfl (A_X7_refused d g9) ?_
      rintro _ _ ⟨rfl, rfl⟩
      show am_Rr _ _ (11, [some (.ref 0), some (.int a), none], [.int r7], x8) _
      obtain rfl := Option.some.inj hF
      exact am_Rr.ret (v := some (.int r7)) (x := x8) rfl (by trivial) ⟨rfl, rfl⟩
noncomputable def G_X7_setWarm (a : Int32) (x : am_X) : Option (Int32 × am_X) := (if (0 : Int32) ≤ a then (if 0 ≤ a.toInt ∧ a.toInt ≤ 9 then some ((x.1 38), (am_uI x 38 a)) else (match G_X7_refused (-6 : Int32) x with | none => none | some (r4, x5) => some (r4, x5))) else (match G_X7_refused (-4 : Int32) x with | none => none | some (r7, x8) => some (r7, x8)))
theorem A_X7_setWarm (d : Nat) {a : Int32} {x : am_X} {res : Int32 × am_X} (hF : G_X7_setWarm a x = some res) : am_T (d + 3) mX7_setWarm [.ref 0, .int a] x (fun ro y => ro = some (.int res.1) ∧ res.2 = y) := by
  refine am_T.of rfl ?_
  show am_Rr (d + 2) kX7_setWarm (0, [some (.ref 0), some (.int a), none], [], x) _
  unfold G_X7_setWarm at hF
  refine am_Rr.go 2 (σ' := (if (0 : Int32) ≤ a then 11 else 4, [some (.ref 0), some (.int a), none], [], x)) rfl ?_
  refine am_Rr.ite (fun h1 => ?_) (fun h1 => ?_)
  · rw [if_pos h1] at hF
    refine am_Rr.go 7 (σ' := (24, [some (.ref 0), some (.int a), some (.int (x.1 38))], [.int a, .ref 1], x)) rfl ?_
    refine am_Rr.call (pc := 27) (ls := [some (.ref 0), some (.int a), some (.int (x.1 38))]) (st := []) rfl (S_takeWarm_1 d a x) ?_
    rintro _ _ (⟨b2, rfl, rfl⟩ | ⟨b3, rfl, rfl⟩)
    · rw [if_pos b2] at hF
      show am_Rr _ _ (27, [some (.ref 0), some (.int a), some (.int (x.1 38))], [.int 1], (am_uI x 38 a)) _
      refine am_Rr.go 3 (σ' := (40, [some (.ref 0), some (.int a), some (.int (x.1 38))], [.int (x.1 38)], (am_uI x 38 a))) rfl ?_
      obtain rfl := Option.some.inj hF
      exact am_Rr.ret (v := some (.int (x.1 38))) (x := (am_uI x 38 a)) rfl (by trivial) ⟨rfl, rfl⟩
    · rw [if_neg b3] at hF
      show am_Rr _ _ (27, [some (.ref 0), some (.int a), some (.int (x.1 38))], [.int 0], x) _
      refine am_Rr.go 3 (σ' := (37, [some (.ref 0), some (.int a), some (.int (x.1 38))], [.int (-6), .ref 0], x)) rfl ?_
      cases g6 : G_X7_refused (-6 : Int32) x with
      | none => rw [g6] at hF; cases hF
      | some q_ =>
        obtain ⟨r4, x5⟩ := q_
        rw [g6] at hF
        dsimp only at hF
        refine am_Rr.call (pc := 40) (ls := [some (.ref 0), some (.int a), some (.int (x.1 38))]) (st := []) rfl (A_X7_refused d g6) ?_
        rintro _ _ ⟨rfl, rfl⟩
        show am_Rr _ _ (40, [some (.ref 0), some (.int a), some (.int (x.1 38))], [.int r4], x5) _
        obtain rfl := Option.some.inj hF
        exact am_Rr.ret (v := some (.int r4)) (x := x5) rfl (by trivial) ⟨rfl, rfl⟩
  · rw [if_neg h1] at hF
    refine am_Rr.go 2 (σ' := (7, [some (.ref 0), some (.int a), none], [.int (-4), .ref 0], x)) rfl ?_
    cases g9 : G_X7_refused (-4 : Int32) x with
    | none => rw [g9] at hF; cases hF
    | some q_ =>
      obtain ⟨r7, x8⟩ := q_
      rw [g9] at hF
      dsimp only at hF
      refine am_Rr.call (pc := 10) (ls := [some (.ref 0), some (.int a), none]) (st := []) rfl (A_X7_refused d g9) ?_
      rintro _ _ ⟨rfl, rfl⟩
      show am_Rr _ _ (10, [some (.ref 0), some (.int a), none], [.int r7], x8) _
      obtain rfl := Option.some.inj hF
      exact am_Rr.ret (v := some (.int r7)) (x := x8) rfl (by trivial) ⟨rfl, rfl⟩
noncomputable def G_X7_set (a : Int32) (b : Int32) (x : am_X) : Option (Int32 × am_X) := (if a = 0 then (match G_X7_setHome b x with | none => none | some (r2, x3) => some (r2, x3)) else (if a = 1 then (match G_X7_setPace b x with | none => none | some (r6, x7) => some (r6, x7)) else (if a = 2 then (match G_X7_setWarm b x with | none => none | some (r10, x11) => some (r10, x11)) else (match G_X7_refused (-2 : Int32) x with | none => none | some (r13, x14) => some (r13, x14)))))
theorem A_X7_set (d : Nat) {a : Int32} {b : Int32} {x : am_X} {res : Int32 × am_X} (hF : G_X7_set a b x = some res) : am_T (d + 7) mX7_set [.ref 0, .int a, .int b] x (fun ro y => ro = some (.int res.1) ∧ res.2 = y) := by
  refine am_T.of rfl ?_
  show am_Rr (d + 6) kX7_set (0, [some (.ref 0), some (.int a), some (.int b)], [], x) _
  unfold G_X7_set at hF
  refine am_Rr.go 2 (σ' := ((if a = 0 then 28 else (if a = 1 then 34 else (if a = 2 then 40 else 46))), [some (.ref 0), some (.int a), some (.int b)], [], x)) rfl ?_
  refine am_Rr.ite (fun h1 => ?_) (fun h1 => ?_)
  · rw [if_pos h1] at hF
    refine am_Rr.go 2 (σ' := (30, [some (.ref 0), some (.int a), some (.int b)], [.int b, .ref 0], x)) rfl ?_
    cases g4 : G_X7_setHome b x with
    | none => rw [g4] at hF; cases hF
    | some q_ =>
      obtain ⟨r2, x3⟩ := q_
      rw [g4] at hF
      dsimp only at hF
      refine am_Rr.call (pc := 33) (ls := [some (.ref 0), some (.int a), some (.int b)]) (st := []) rfl (A_X7_setHome d g4) ?_
      rintro _ _ ⟨rfl, rfl⟩
      show am_Rr _ _ (33, [some (.ref 0), some (.int a), some (.int b)], [.int r2], x3) _
      obtain rfl := Option.some.inj hF
      exact am_Rr.ret (v := some (.int r2)) (x := x3) rfl (by trivial) ⟨rfl, rfl⟩
  rw [if_neg h1] at hF
  refine am_Rr.ite (fun h5 => ?_) (fun h5 => ?_)
  · rw [if_pos h5] at hF
    refine am_Rr.go 2 (σ' := (36, [some (.ref 0), some (.int a), some (.int b)], [.int b, .ref 0], x)) rfl ?_
    cases g8 : G_X7_setPace b x with
    | none => rw [g8] at hF; cases hF
    | some q_ =>
      obtain ⟨r6, x7⟩ := q_
      rw [g8] at hF
      dsimp only at hF
      refine am_Rr.call (pc := 39) (ls := [some (.ref 0), some (.int a), some (.int b)]) (st := []) rfl (A_X7_setPace (d + 3) g8) ?_
      rintro _ _ ⟨rfl, rfl⟩
      show am_Rr _ _ (39, [some (.ref 0), some (.int a), some (.int b)], [.int r6], x7) _
      obtain rfl := Option.some.inj hF
      exact am_Rr.ret (v := some (.int r6)) (x := x7) rfl (by trivial) ⟨rfl, rfl⟩
  rw [if_neg h5] at hF
  refine am_Rr.ite (fun h9 => ?_) (fun h9 => ?_)
  · rw [if_pos h9] at hF
    refine am_Rr.go 2 (σ' := (42, [some (.ref 0), some (.int a), some (.int b)], [.int b, .ref 0], x)) rfl ?_
    cases g12 : G_X7_setWarm b x with
    | none => rw [g12] at hF; cases hF
    | some q_ =>
      obtain ⟨r10, x11⟩ := q_
      rw [g12] at hF
      dsimp only at hF
      refine am_Rr.call (pc := 45) (ls := [some (.ref 0), some (.int a), some (.int b)]) (st := []) rfl (A_X7_setWarm (d + 3) g12) ?_
      rintro _ _ ⟨rfl, rfl⟩
      show am_Rr _ _ (45, [some (.ref 0), some (.int a), some (.int b)], [.int r10], x11) _
      obtain rfl := Option.some.inj hF
      exact am_Rr.ret (v := some (.int r10)) (x := x11) rfl (by trivial) ⟨rfl, rfl⟩
  rw [if_neg h9] at hF
  refine am_Rr.go 2 (σ' := (49, [some (.ref 0), some (.int a), some (.int b)], [.int (-2), .ref 0], x)) rfl ?_
  cases g15 : G_X7_refused (-2 : Int32) x with
  | none => rw [g15] at hF; cases hF
  | some q_ =>
    obtain ⟨r13, x14⟩ := q_
    rw [g15] at hF
    dsimp only at hF
    refine am_Rr.call (pc := 52) (ls := [some (.ref 0), some (.int a), some (.int b)]) (st := []) rfl (A_X7_refused (d + 4) g15) ?_
    rintro _ _ ⟨rfl, rfl⟩
    show am_Rr _ _ (52, [some (.ref 0), some (.int a), some (.int b)], [.int r13], x14) _
    obtain rfl := Option.some.inj hF
    exact am_Rr.ret (v := some (.int r13)) (x := x14) rfl (by trivial) ⟨rfl, rfl⟩
noncomputable def G_X7_seeker (a : Int32) (b : Int32) (x : am_X) : Option (Int32 × am_X) := (if am_hs (x.1 35) a then (if b = 0 then some ((am_ifs (x.1 35) (x.2.2.1 3) a 0), x) else (if b = 1 then some ((am_ifs (x.1 35) (x.2.2.1 4) a (-9)), x) else (match G_X7_refused (-2 : Int32) x with | none => none | some (r4, x5) => some (r4, x5)))) else (match G_X7_refused (-1 : Int32) x with | none => none | some (r7, x8) => some (r7, x8)))
theorem A_X7_seeker (d : Nat) {a : Int32} {b : Int32} {x : am_X} {res : Int32 × am_X} (hF : G_X7_seeker a b x = some res) : am_T (d + 4) mX7_seeker [.ref 0, .int a, .int b] x (fun ro y => ro = some (.int res.1) ∧ res.2 = y) := by
  refine am_T.of rfl ?_
  show am_Rr (d + 3) kX7_seeker (0, [some (.ref 0), some (.int a), some (.int b)], [], x) _
  unfold G_X7_seeker at hF
  refine am_Rr.go 3 (σ' := (5, [some (.ref 0), some (.int a), some (.int b)], [.int a, .ref 1], x)) rfl ?_
  refine am_Rr.call (pc := 8) (ls := [some (.ref 0), some (.int a), some (.int b)]) (st := []) rfl (S_hasSeeker_1 (d + 1) a x) ?_
  rintro _ _ ⟨rfl, (⟨rfl, b1⟩ | ⟨rfl, b1⟩)⟩
  · rw [if_pos b1] at hF
    show am_Rr _ _ (8, [some (.ref 0), some (.int a), some (.int b)], [.int 1], x) _
    refine am_Rr.go 3 (σ' := ((if b = 0 then 44 else (if b = 1 then 53 else 62)), [some (.ref 0), some (.int a), some (.int b)], [], x)) rfl ?_
    refine am_Rr.ite (fun h2 => ?_) (fun h2 => ?_)
    · rw [if_pos h2] at hF
      refine am_Rr.go 3 (σ' := (49, [some (.ref 0), some (.int a), some (.int b)], [.int a, .ref 1], x)) rfl ?_
      refine am_Rr.call (pc := 52) (ls := [some (.ref 0), some (.int a), some (.int b)]) (st := []) rfl (S_kindOfSeeker_1 d a x) ?_
      rintro _ _ ⟨rfl, rfl⟩
      show am_Rr _ _ (52, [some (.ref 0), some (.int a), some (.int b)], [.int (am_ifs (x.1 35) (x.2.2.1 3) a 0)], x) _
      obtain rfl := Option.some.inj hF
      exact am_Rr.ret (v := some (.int (am_ifs (x.1 35) (x.2.2.1 3) a 0))) (x := x) rfl (by trivial) ⟨rfl, rfl⟩
    rw [if_neg h2] at hF
    refine am_Rr.ite (fun h3 => ?_) (fun h3 => ?_)
    · rw [if_pos h3] at hF
      refine am_Rr.go 3 (σ' := (58, [some (.ref 0), some (.int a), some (.int b)], [.int a, .ref 1], x)) rfl ?_
      refine am_Rr.call (pc := 61) (ls := [some (.ref 0), some (.int a), some (.int b)]) (st := []) rfl (S_squareOfSeeker_1 d a x) ?_
      rintro _ _ ⟨rfl, rfl⟩
      show am_Rr _ _ (61, [some (.ref 0), some (.int a), some (.int b)], [.int (am_ifs (x.1 35) (x.2.2.1 4) a (-9))], x) _
      obtain rfl := Option.some.inj hF
      exact am_Rr.ret (v := some (.int (am_ifs (x.1 35) (x.2.2.1 4) a (-9)))) (x := x) rfl (by trivial) ⟨rfl, rfl⟩
    rw [if_neg h3] at hF
    refine am_Rr.go 2 (σ' := (65, [some (.ref 0), some (.int a), some (.int b)], [.int (-2), .ref 0], x)) rfl ?_
    cases g6 : G_X7_refused (-2 : Int32) x with
    | none => rw [g6] at hF; cases hF
    | some q_ =>
      obtain ⟨r4, x5⟩ := q_
      rw [g6] at hF
      dsimp only at hF
      refine am_Rr.call (pc := 68) (ls := [some (.ref 0), some (.int a), some (.int b)]) (st := []) rfl (A_X7_refused (d + 1) g6) ?_
      rintro _ _ ⟨rfl, rfl⟩
      show am_Rr _ _ (68, [some (.ref 0), some (.int a), some (.int b)], [.int r4], x5) _
      obtain rfl := Option.some.inj hF
      exact am_Rr.ret (v := some (.int r4)) (x := x5) rfl (by trivial) ⟨rfl, rfl⟩
  · rw [if_neg b1] at hF
    show am_Rr _ _ (8, [some (.ref 0), some (.int a), some (.int b)], [.int 0], x) _
    refine am_Rr.go 3 (σ' := (13, [some (.ref 0), some (.int a), some (.int b)], [.int (-1), .ref 0], x)) rfl ?_
    cases g9 : G_X7_refused (-1 : Int32) x with
    | none => rw [g9] at hF; cases hF
    | some q_ =>
      obtain ⟨r7, x8⟩ := q_
      rw [g9] at hF
      dsimp only at hF
      refine am_Rr.call (pc := 16) (ls := [some (.ref 0), some (.int a), some (.int b)]) (st := []) rfl (A_X7_refused (d + 1) g9) ?_
      rintro _ _ ⟨rfl, rfl⟩
      show am_Rr _ _ (16, [some (.ref 0), some (.int a), some (.int b)], [.int r7], x8) _
      obtain rfl := Option.some.inj hF
      exact am_Rr.ret (v := some (.int r7)) (x := x8) rfl (by trivial) ⟨rfl, rfl⟩
noncomputable def G_X7_stand (a : Int32) (b : Int32) (x : am_X) : Option (Int32 × am_X) := (if am_hs (x.1 35) a then (if am_sq b then (if am_hs (x.1 35) a then some ((am_ifs (x.1 35) (x.2.2.1 4) a (-9)), (am_sA x 4 (upd (x.2.2.1 4) a.toNatClampNeg b))) else some ((am_ifs (x.1 35) (x.2.2.1 4) a (-9)), x)) else (match G_X7_refused (-1 : Int32) x with | none => none | some (r5, x6) => some (r5, x6))) else (match G_X7_refused (-1 : Int32) x with | none => none | some (r8, x9) => some (r8, x9)))
theorem A_X7_stand (d : Nat) {a : Int32} {b : Int32} {x : am_X} {res : Int32 × am_X} (hF : G_X7_stand a b x = some res) : am_T (d + 4) mX7_stand [.ref 0, .int a, .int b] x (fun ro y => ro = some (.int res.1) ∧ res.2 = y) := by
  refine am_T.of rfl ?_
  show am_Rr (d + 3) kX7_stand (0, [some (.ref 0), some (.int a), some (.int b), none], [], x) _
  unfold G_X7_stand at hF
  refine am_Rr.go 3 (σ' := (5, [some (.ref 0), some (.int a), some (.int b), none], [.int a, .ref 1], x)) rfl ?_
  refine am_Rr.call (pc := 8) (ls := [some (.ref 0), some (.int a), some (.int b), none]) (st := []) rfl (S_hasSeeker_1 (d + 1) a x) ?_
  rintro _ _ ⟨rfl, (⟨rfl, b1⟩ | ⟨rfl, b1⟩)⟩
  · rw [if_pos b1] at hF
    show am_Rr _ _ (8, [some (.ref 0), some (.int a), some (.int b), none], [.int 1], x) _
    refine am_Rr.go 2 (σ' := (12, [some (.ref 0), some (.int a), some (.int b), none], [.int b], x)) rfl ?_
    refine am_Rr.call (pc := 15) (ls := [some (.ref 0), some (.int a), some (.int b), none]) (st := []) rfl (S_isSquare (d + 1) b x) ?_
    rintro _ _ ⟨rfl, (⟨rfl, b2⟩ | ⟨rfl, b2⟩)⟩
    · rw [if_pos b2] at hF
      show am_Rr _ _ (15, [some (.ref 0), some (.int a), some (.int b), none], [.int 1], x) _
      refine am_Rr.go 4 (σ' := (29, [some (.ref 0), some (.int a), some (.int b), none], [.int a, .ref 1], x)) rfl ?_
      refine am_Rr.call (pc := 32) (ls := [some (.ref 0), some (.int a), some (.int b), none]) (st := []) rfl (S_squareOfSeeker_1 d a x) ?_
      rintro _ _ ⟨rfl, rfl⟩
      show am_Rr _ _ (32, [some (.ref 0), some (.int a), some (.int b), none], [.int (am_ifs (x.1 35) (x.2.2.1 4) a (-9))], x) _
      refine am_Rr.go 5 (σ' := (39, [some (.ref 0), some (.int a), some (.int b), some (.int (am_ifs (x.1 35) (x.2.2.1 4) a (-9)))], [.int b, .int a, .ref 1], x)) rfl ?_
      refine am_Rr.call (pc := 42) (ls := [some (.ref 0), some (.int a), some (.int b), some (.int (am_ifs (x.1 35) (x.2.2.1 4) a (-9)))]) (st := []) rfl (S_placeSeeker_1 d a b x) ?_
      rintro _ _ (⟨b3, rfl, rfl⟩ | ⟨b4, rfl, rfl⟩)
      · rw [if_pos b3] at hF
        show am_Rr _ _ (42, [some (.ref 0), some (.int a), some (.int b), some (.int (am_ifs (x.1 35) (x.2.2.1 4) a (-9)))], [], (am_sA x 4 (upd (x.2.2.1 4) a.toNatClampNeg b))) _
        refine am_Rr.go 1 (σ' := (43, [some (.ref 0), some (.int a), some (.int b), some (.int (am_ifs (x.1 35) (x.2.2.1 4) a (-9)))], [.int (am_ifs (x.1 35) (x.2.2.1 4) a (-9))], (am_sA x 4 (upd (x.2.2.1 4) a.toNatClampNeg b)))) rfl ?_
        obtain rfl := Option.some.inj hF
        exact am_Rr.ret (v := some (.int (am_ifs (x.1 35) (x.2.2.1 4) a (-9)))) (x := (am_sA x 4 (upd (x.2.2.1 4) a.toNatClampNeg b))) rfl (by trivial) ⟨rfl, rfl⟩
      · rw [if_neg b4] at hF
        show am_Rr _ _ (42, [some (.ref 0), some (.int a), some (.int b), some (.int (am_ifs (x.1 35) (x.2.2.1 4) a (-9)))], [], x) _
        refine am_Rr.go 1 (σ' := (43, [some (.ref 0), some (.int a), some (.int b), some (.int (am_ifs (x.1 35) (x.2.2.1 4) a (-9)))], [.int (am_ifs (x.1 35) (x.2.2.1 4) a (-9))], x)) rfl ?_
        obtain rfl := Option.some.inj hF
        exact am_Rr.ret (v := some (.int (am_ifs (x.1 35) (x.2.2.1 4) a (-9)))) (x := x) rfl (by trivial) ⟨rfl, rfl⟩
    · rw [if_neg b2] at hF
      show am_Rr _ _ (15, [some (.ref 0), some (.int a), some (.int b), none], [.int 0], x) _
      refine am_Rr.go 3 (σ' := (20, [some (.ref 0), some (.int a), some (.int b), none], [.int (-1), .ref 0], x)) rfl ?_
      cases g7 : G_X7_refused (-1 : Int32) x with
      | none => rw [g7] at hF; cases hF
      | some q_ =>
        obtain ⟨r5, x6⟩ := q_
        rw [g7] at hF
        dsimp only at hF
        refine am_Rr.call (pc := 23) (ls := [some (.ref 0), some (.int a), some (.int b), none]) (st := []) rfl (A_X7_refused (d + 1) g7) ?_
        rintro _ _ ⟨rfl, rfl⟩
        show am_Rr _ _ (23, [some (.ref 0), some (.int a), some (.int b), none], [.int r5], x6) _
        obtain rfl := Option.some.inj hF
        exact am_Rr.ret (v := some (.int r5)) (x := x6) rfl (by trivial) ⟨rfl, rfl⟩
  · rw [if_neg b1] at hF
    show am_Rr _ _ (8, [some (.ref 0), some (.int a), some (.int b), none], [.int 0], x) _
    refine am_Rr.go 3 (σ' := (20, [some (.ref 0), some (.int a), some (.int b), none], [.int (-1), .ref 0], x)) rfl ?_
    cases g10 : G_X7_refused (-1 : Int32) x with
    | none => rw [g10] at hF; cases hF
    | some q_ =>
      obtain ⟨r8, x9⟩ := q_
      rw [g10] at hF
      dsimp only at hF
      refine am_Rr.call (pc := 23) (ls := [some (.ref 0), some (.int a), some (.int b), none]) (st := []) rfl (A_X7_refused (d + 1) g10) ?_
      rintro _ _ ⟨rfl, rfl⟩
      show am_Rr _ _ (23, [some (.ref 0), some (.int a), some (.int b), none], [.int r8], x9) _
      obtain rfl := Option.some.inj hF
      exact am_Rr.ret (v := some (.int r8)) (x := x9) rfl (by trivial) ⟨rfl, rfl⟩
noncomputable def G_X7_steps (a : Int32) (x : am_X) : Option (Int32 × am_X) := (if am_sq a then (match G_X6_stepsTo_18 (am_bit a) (am_spx x (x.1 36) (0 : Int64)) with | none => none | some (r2, x3) => some (r2, x3)) else (match G_X7_refused (-1 : Int32) x with | none => none | some (r5, x6) => some (r5, x6)))
theorem A_X7_steps (d : Nat) {a : Int32} {x : am_X} {res : Int32 × am_X} (hF : G_X7_steps a x = some res) : am_T (d + 5) mX7_steps [.ref 0, .int a] x (fun ro y => ro = some (.int res.1) ∧ res.2 = y) := by
  refine am_T.of rfl ?_
  show am_Rr (d + 4) kX7_steps (0, [some (.ref 0), some (.int a)], [], x) _
  unfold G_X7_steps at hF
  refine am_Rr.go 1 (σ' := (1, [some (.ref 0), some (.int a)], [.int a], x)) rfl ?_
  refine am_Rr.call (pc := 4) (ls := [some (.ref 0), some (.int a)]) (st := []) rfl (S_isSquare (d + 2) a x) ?_
  rintro _ _ ⟨rfl, (⟨rfl, b1⟩ | ⟨rfl, b1⟩)⟩
  · rw [if_pos b1] at hF
    show am_Rr _ _ (4, [some (.ref 0), some (.int a)], [.int 1], x) _
    refine am_Rr.go 9 (σ' := (29, [some (.ref 0), some (.int a)], [.long 0, .int (x.1 36), .ref 1, .ref 18], x)) rfl ?_
    refine am_Rr.call (pc := 32) (ls := [some (.ref 0), some (.int a)]) (st := []) rfl (S_spread d (x.1 36) (0 : Int64) x) ?_
    rintro _ _ ⟨rfl, rfl⟩
    show am_Rr _ _ (32, [some (.ref 0), some (.int a)], [], (am_spx x (x.1 36) (0 : Int64))) _
    refine am_Rr.go 3 (σ' := (37, [some (.ref 0), some (.int a)], [.int a, .ref 18], (am_spx x (x.1 36) (0 : Int64)))) rfl ?_
    refine am_Rr.call (pc := 40) (ls := [some (.ref 0), some (.int a)]) (st := [.ref 18]) rfl (S_bit (d + 1) a (am_spx x (x.1 36) (0 : Int64))) ?_
    rintro _ _ ⟨rfl, rfl⟩
    show am_Rr _ _ (40, [some (.ref 0), some (.int a)], [.long (am_bit a), .ref 18], (am_spx x (x.1 36) (0 : Int64))) _
    cases g4 : G_X6_stepsTo_18 (am_bit a) (am_spx x (x.1 36) (0 : Int64)) with
    | none => rw [g4] at hF; cases hF
    | some q_ =>
      obtain ⟨r2, x3⟩ := q_
      rw [g4] at hF
      dsimp only at hF
      refine am_Rr.call (pc := 43) (ls := [some (.ref 0), some (.int a)]) (st := []) rfl (A_X6_stepsTo_18 (d + 1) g4) ?_
      rintro _ _ ⟨rfl, rfl⟩
      show am_Rr _ _ (43, [some (.ref 0), some (.int a)], [.int r2], x3) _
      obtain rfl := Option.some.inj hF
      exact am_Rr.ret (v := some (.int r2)) (x := x3) rfl (by trivial) ⟨rfl, rfl⟩
  · rw [if_neg b1] at hF
    show am_Rr _ _ (4, [some (.ref 0), some (.int a)], [.int 0], x) _
    refine am_Rr.go 3 (σ' := (9, [some (.ref 0), some (.int a)], [.int (-1), .ref 0], x)) rfl ?_
    cases g7 : G_X7_refused (-1 : Int32) x with
    | none => rw [g7] at hF; cases hF
    | some q_ =>
      obtain ⟨r5, x6⟩ := q_
      rw [g7] at hF
      dsimp only at hF
      refine am_Rr.call (pc := 12) (ls := [some (.ref 0), some (.int a)]) (st := []) rfl (A_X7_refused (d + 2) g7) ?_
      rintro _ _ ⟨rfl, rfl⟩
      show am_Rr _ _ (12, [some (.ref 0), some (.int a)], [.int r5], x6) _
      obtain rfl := Option.some.inj hF
      exact am_Rr.ret (v := some (.int r5)) (x := x6) rfl (by trivial) ⟨rfl, rfl⟩
noncomputable def G_X7_reachedBy (a : Int32) (x : am_X) : Option (Int64 × am_X) := (if (1 : Int32) ≤ ((am_spx x (x.1 36) (0 : Int64)).1 37) then (if ¬ ((am_spx x (x.1 36) (0 : Int64)).1 37) = 0 then (match G_X6_within_18 (a / ((am_spx x (x.1 36) (0 : Int64)).1 37)) (am_spx x (x.1 36) (0 : Int64)) with | none => none | some (r3, x4) => some (r3, x4)) else none) else some ((0 : Int64), (am_spx x (x.1 36) (0 : Int64))))
theorem A_X7_reachedBy (d : Nat) {a : Int32} {x : am_X} {res : Int64 × am_X} (hF : G_X7_reachedBy a x = some res) : am_T (d + 5) mX7_reachedBy [.ref 0, .int a] x (fun ro y => ro = some (.long res.1) ∧ res.2 = y) := by
  refine am_T.of rfl ?_
  show am_Rr (d + 4) kX7_reachedBy (0, [some (.ref 0), some (.int a)], [], x) _
  unfold G_X7_reachedBy at hF
  refine am_Rr.go 8 (σ' := (16, [some (.ref 0), some (.int a)], [.long 0, .int (x.1 36), .ref 1, .ref 18], x)) rfl ?_
  refine am_Rr.call (pc := 19) (ls := [some (.ref 0), some (.int a)]) (st := []) rfl (S_spread d (x.1 36) (0 : Int64) x) ?_
  rintro _ _ ⟨rfl, rfl⟩
  show am_Rr _ _ (19, [some (.ref 0), some (.int a)], [], (am_spx x (x.1 36) (0 : Int64))) _
  refine am_Rr.go 5 (σ' := (if (1 : Int32) ≤ ((am_spx x (x.1 36) (0 : Int64)).1 37) then 34 else 30, [some (.ref 0), some (.int a)], [], (am_spx x (x.1 36) (0 : Int64)))) rfl ?_
  refine am_Rr.ite (fun h1 => ?_) (fun h1 => ?_)
  · rw [if_pos h1] at hF
    refine am_Rr.go 6 (σ' := (46, [some (.ref 0), some (.int a)], [.int ((am_spx x (x.1 36) (0 : Int64)).1 37), .int a, .ref 18], (am_spx x (x.1 36) (0 : Int64)))) rfl ?_
    by_cases c2 : ¬ ((am_spx x (x.1 36) (0 : Int64)).1 37) = 0
    · rw [if_pos c2] at hF
      refine am_Rr.chk (σ' := (47, [some (.ref 0), some (.int a)], [.int (a / ((am_spx x (x.1 36) (0 : Int64)).1 37)), .ref 18], (am_spx x (x.1 36) (0 : Int64)))) rfl (by exact c2) ?_
      cases g5 : G_X6_within_18 (a / ((am_spx x (x.1 36) (0 : Int64)).1 37)) (am_spx x (x.1 36) (0 : Int64)) with
      | none => rw [g5] at hF; cases hF
      | some q_ =>
        obtain ⟨r3, x4⟩ := q_
        rw [g5] at hF
        dsimp only at hF
        refine am_Rr.call (pc := 50) (ls := [some (.ref 0), some (.int a)]) (st := []) rfl (A_X6_within_18 (d + 1) g5) ?_
        rintro _ _ ⟨rfl, rfl⟩
        show am_Rr _ _ (50, [some (.ref 0), some (.int a)], [.long r3], x4) _
        obtain rfl := Option.some.inj hF
        exact am_Rr.ret (v := some (.long r3)) (x := x4) rfl (by trivial) ⟨rfl, rfl⟩
    · rw [if_neg c2] at hF
      cases hF
  · rw [if_neg h1] at hF
    refine am_Rr.go 2 (σ' := (50, [some (.ref 0), some (.int a)], [.long 0], (am_spx x (x.1 36) (0 : Int64)))) rfl ?_
    obtain rfl := Option.some.inj hF
    exact am_Rr.ret (v := some (.long 0)) (x := (am_spx x (x.1 36) (0 : Int64))) rfl (by trivial) ⟨rfl, rfl⟩
