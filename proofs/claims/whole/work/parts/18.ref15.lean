noncomputable def G_X8_judge (a : Int32) (x : am_X) : Option (Int32 × am_X) := (if (0 : Int32) ≤ a then (if a ≤ 999 then (match G_X8_looksOfRow a x with | none => none | some (r3, x4) => some (r3, x4)) else (match G_X8_no (-6 : Int32) x with | none => none | some (r6, x7) => some (r6, x7))) else (match G_X8_no (-4 : Int32) x with | none => none | some (r9, x10) => some (r9, x10)))
theorem A_X8_judge (d : Nat) {a : Int32} {x : am_X} {res : Int32 × am_X} (hF : G_X8_judge a x = some res) : am_T (d + 8) mX8_judge [.ref 27, .int a] x (fun ro y => ro = some (.int res.1) ∧ res.2 = y) := by
  refine am_T.of rfl ?_
  show am_Rr (d + 7) kX8_judge (0, [some (.ref 27), some (.int a)], [], x) _
  unfold G_X8_judge at hF
  refine am_Rr.go 2 (σ' := (if (0 : Int32) ≤ a then 11 else 4, [some (.ref 27), some (.int a)], [], x)) rfl ?_
  refine am_Rr.ite (fun h1 => ?_) (fun h1 => ?_)
  · rw [if_pos h1] at hF
    refine am_Rr.go 3 (σ' := (if a ≤ 999 then 27 else 18, [some (.ref 27), some (.int a)], [], x)) rfl ?_
    refine am_Rr.ite (fun h2 => ?_) (fun h2 => ?_)
    · rw [if_pos h2] at hF
      refine am_Rr.go 2 (σ' := (29, [some (.ref 27), some (.int a)], [.int a, .ref 27], x)) rfl ?_
      cases g5 : G_X8_looksOfRow a x with
      | none => rw [g5] at hF; cases hF
      | some q_ =>
        obtain ⟨r3, x4⟩ := q_
        rw [g5] at hF
        dsimp only at hF
        refine am_Rr.call (pc := 32) (ls := [some (.ref 27), some (.int a)]) (st := []) rfl (A_X8_looksOfRow d g5) ?_
        rintro _ _ ⟨rfl, rfl⟩
        show am_Rr _ _ (32, [some (.ref 27), some (.int a)], [.int r3], x4) _
        obtain rfl := Option.some.inj hF
        exact am_Rr.ret (v := some (.int r3)) (x := x4) rfl (by trivial) ⟨rfl, rfl⟩
    · rw [if_neg h2] at hF
      refine am_Rr.go 2 (σ' := (21, [some (.ref 27), some (.int a)], [.int (-6), .ref 27], x)) rfl ?_
      cases g8 : G_X8_no (-6 : Int32) x with
      | none => rw [g8] at hF; cases hF
      | some q_ =>
        obtain ⟨r6, x7⟩ := q_
        rw [g8] at hF
        dsimp only at hF
        refine am_Rr.call (pc := 24) (ls := [some (.ref 27), some (.int a)]) (st := []) rfl (A_X8_no (d + 5) g8) ?_
        rintro _ _ ⟨rfl, rfl⟩
        show am_Rr _ _ (24, [some (.ref 27), some (.int a)], [.int r6], x7) _
        refine am_Rr.go 1 (σ' := (32, [some (.ref 27), some (.int a)], [.int r6], x7)) rfl ?_
        obtain rfl := Option.some.inj hF
        exact am_Rr.ret (v := some (.int r6)) (x := x7) rfl (by trivial) ⟨rfl, rfl⟩
  · rw [if_neg h1] at hF
    refine am_Rr.go 2 (σ' := (7, [some (.ref 27), some (.int a)], [.int (-4), .ref 27], x)) rfl ?_
    cases g11 : G_X8_no (-4 : Int32) x with
    | none => rw [g11] at hF; cases hF
    | some q_ =>
      obtain ⟨r9, x10⟩ := q_
      rw [g11] at hF
      dsimp only at hF
      refine am_Rr.call (pc := 10) (ls := [some (.ref 27), some (.int a)]) (st := []) rfl (A_X8_no (d + 5) g11) ?_
      rintro _ _ ⟨rfl, rfl⟩
      show am_Rr _ _ (10, [some (.ref 27), some (.int a)], [.int r9], x10) _
      obtain rfl := Option.some.inj hF
      exact am_Rr.ret (v := some (.int r9)) (x := x10) rfl (by trivial) ⟨rfl, rfl⟩
noncomputable def G_X8_behind (a : Int32) (x : am_X) : Option (Int32 × am_X) := (if (0 : Int32) ≤ a then (if a ≤ 999 then (match G_X8_looksOfRow a x with | none => none | some (r3, x4) => (match G_X8_inSet  (am_uI x4 885 0) with | none => none | some (r6, x7) => some (r6, x7))) else (match G_X8_no (-6 : Int32) x with | none => none | some (r9, x10) => some (r9, x10))) else (match G_X8_no (-4 : Int32) x with | none => none | some (r12, x13) => some (r12, x13)))
theorem A_X8_behind (d : Nat) {a : Int32} {x : am_X} {res : Int32 × am_X} (hF : G_X8_behind a x = some res) : am_T (d + 8) mX8_behind [.ref 27, .int a] x (fun ro y => ro = some (.int res.1) ∧ res.2 = y) := by
  refine am_T.of rfl ?_
  show am_Rr (d + 7) kX8_behind (0, [some (.ref 27), some (.int a)], [], x) _
  unfold G_X8_behind at hF
  refine am_Rr.go 2 (σ' := (if (0 : Int32) ≤ a then 11 else 4, [some (.ref 27), some (.int a)], [], x)) rfl ?_
  refine am_Rr.ite (fun h1 => ?_) (fun h1 => ?_)
  · rw [if_pos h1] at hF
    refine am_Rr.go 3 (σ' := (if a ≤ 999 then 25 else 18, [some (.ref 27), some (.int a)], [], x)) rfl ?_
    refine am_Rr.ite (fun h2 => ?_) (fun h2 => ?_)
    · rw [if_pos h2] at hF
      refine am_Rr.go 2 (σ' := (27, [some (.ref 27), some (.int a)], [.int a, .ref 27], x)) rfl ?_
      cases g5 : G_X8_looksOfRow a x with
      | none => rw [g5] at hF; cases hF
      | some q_ =>
        obtain ⟨r3, x4⟩ := q_
        rw [g5] at hF
        dsimp only at hF
        refine am_Rr.call (pc := 30) (ls := [some (.ref 27), some (.int a)]) (st := []) rfl (A_X8_looksOfRow d g5) ?_
        rintro _ _ ⟨rfl, rfl⟩
        show am_Rr _ _ (30, [some (.ref 27), some (.int a)], [.int r3], x4) _
        refine am_Rr.go 5 (σ' := (37, [some (.ref 27), some (.int a)], [.ref 27], (am_uI x4 885 0))) rfl ?_
        cases g8 : G_X8_inSet  (am_uI x4 885 0) with
        | none => rw [g8] at hF; cases hF
        | some q_ =>
          obtain ⟨r6, x7⟩ := q_
          rw [g8] at hF
          dsimp only at hF
          refine am_Rr.call (pc := 40) (ls := [some (.ref 27), some (.int a)]) (st := []) rfl (A_X8_inSet (d + 5) g8) ?_
          rintro _ _ ⟨rfl, rfl⟩
          show am_Rr _ _ (40, [some (.ref 27), some (.int a)], [.int r6], x7) _
          obtain rfl := Option.some.inj hF
          exact am_Rr.ret (v := some (.int r6)) (x := x7) rfl (by trivial) ⟨rfl, rfl⟩
    · rw [if_neg h2] at hF
      refine am_Rr.go 2 (σ' := (21, [some (.ref 27), some (.int a)], [.int (-6), .ref 27], x)) rfl ?_
      cases g11 : G_X8_no (-6 : Int32) x with
      | none => rw [g11] at hF; cases hF
      | some q_ =>
        obtain ⟨r9, x10⟩ := q_
        rw [g11] at hF
        dsimp only at hF
        refine am_Rr.call (pc := 24) (ls := [some (.ref 27), some (.int a)]) (st := []) rfl (A_X8_no (d + 5) g11) ?_
        rintro _ _ ⟨rfl, rfl⟩
        show am_Rr _ _ (24, [some (.ref 27), some (.int a)], [.int r9], x10) _
        obtain rfl := Option.some.inj hF
        exact am_Rr.ret (v := some (.int r9)) (x := x10) rfl (by trivial) ⟨rfl, rfl⟩
  · rw [if_neg h1] at hF
    refine am_Rr.go 2 (σ' := (7, [some (.ref 27), some (.int a)], [.int (-4), .ref 27], x)) rfl ?_
    cases g14 : G_X8_no (-4 : Int32) x with
    | none => rw [g14] at hF; cases hF
    | some q_ =>
      obtain ⟨r12, x13⟩ := q_
      rw [g14] at hF
      dsimp only at hF
      refine am_Rr.call (pc := 10) (ls := [some (.ref 27), some (.int a)]) (st := []) rfl (A_X8_no (d + 5) g14) ?_
      rintro _ _ ⟨rfl, rfl⟩
      show am_Rr _ _ (10, [some (.ref 27), some (.int a)], [.int r12], x13) _
      obtain rfl := Option.some.inj hF
      exact am_Rr.ret (v := some (.int r12)) (x := x13) rfl (by trivial) ⟨rfl, rfl⟩
