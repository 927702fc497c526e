noncomputable def G_X8_set (a : Int32) (b : Int32) (x : am_X) : Option (Int32 × am_X) := (if a < 0 then (match G_X8_no (-2 : Int32) x with | none => none | some (r2, x3) => some (r2, x3)) else (if a ≤ 2 then (if a = 0 then (match G_X8_isNoSquare b x with | none => none | some (r7, x8) => (if r7 = 0 then (match G_X8_kindOf b x8 with | none => none | some (r11, x12) => (if r11 = 1 then (match G_X8_no (-3 : Int32) x12 with | none => none | some (r15, x16) => some (r15, x16)) else (if 0 ≤ a.toInt ∧ a.toInt < 56 then some (((x12.2.2.1 29) a.toNatClampNeg), (am_sA x12 29 (upd (x12.2.2.1 29) a.toNatClampNeg b))) else none))) else (match G_X8_no (-1 : Int32) x8 with | none => none | some (r19, x20) => some (r19, x20)))) else (if ((2 : Int32) - a) ≤ b then (if b ≤ 9 then (if 0 ≤ a.toInt ∧ a.toInt < 56 then some (((x.2.2.1 29) a.toNatClampNeg), (am_sA x 29 (upd (x.2.2.1 29) a.toNatClampNeg b))) else none) else (match G_X8_no (-6 : Int32) x with | none => none | some (r25, x26) => some (r25, x26))) else (match G_X8_no (-4 : Int32) x with | none => none | some (r28, x29) => some (r28, x29)))) else (match G_X8_no (-2 : Int32) x with | none => none | some (r31, x32) => some (r31, x32))))
theorem A_X8_set (d : Nat) {a : Int32} {b : Int32} {x : am_X} {res : Int32 × am_X} (hF : G_X8_set a b x = some res) : am_T (d + 3) mX8_set [.ref 27, .int a, .int b] x (fun ro y => ro = some (.int res.1) ∧ res.2 = y) := by
  refine am_T.of rfl ?_
  show am_Rr (d + 2) kX8_set (0, [some (.ref 27), some (.int a), some (.int b), none], [], x) _
  unfold G_X8_set at hF
  refine am_Rr.go 2 (σ' := (if a < 0 then 9 else 4, [some (.ref 27), some (.int a), some (.int b), none], [], x)) rfl ?_
  refine am_Rr.ite (fun h1 => ?_) (fun h1 => ?_)
  · rw [if_pos h1] at hF
    refine am_Rr.go 2 (σ' := (12, [some (.ref 27), some (.int a), some (.int b), none], [.int (-2), .ref 27], x)) rfl ?_
    cases g4 : G_X8_no (-2 : Int32) x with
    | none => rw [g4] at hF; cases hF
    | some q_ =>
      obtain ⟨r2, x3⟩ := q_
      rw [g4] at hF
      dsimp only at hF
      refine am_Rr.call (pc := 15) (ls := [some (.ref 27), some (.int a), some (.int b), none]) (st := []) rfl (A_X8_no d g4) ?_
      rintro _ _ ⟨rfl, rfl⟩
      show am_Rr _ _ (15, [some (.ref 27), some (.int a), some (.int b), none], [.int r2], x3) _
      obtain rfl := Option.some.inj hF
      exact am_Rr.ret (v := some (.int r2)) (x := x3) rfl (by trivial) ⟨rfl, rfl⟩
  · rw [if_neg h1] at hF
    refine am_Rr.go 3 (σ' := (if a ≤ 2 then 16 else 9, [some (.ref 27), some (.int a), some (.int b), none], [], x)) rfl ?_
    refine am_Rr.ite (fun h5 => ?_) (fun h5 => ?_)
    · rw [if_pos h5] at hF
      refine am_Rr.go 2 (σ' := (if a = 0 then 20 else 49, [some (.ref 27), some (.int a), some (.int b), none], [], x)) rfl ?_
      refine am_Rr.ite (fun h6 => ?_) (fun h6 => ?_)
      · rw [if_pos h6] at hF
        refine am_Rr.go 1 (σ' := (21, [some (.ref 27), some (.int a), some (.int b), none], [.int b], x)) rfl ?_
        cases g9 : G_X8_isNoSquare b x with
        | none => rw [g9] at hF; cases hF
        | some q_ =>
          obtain ⟨r7, x8⟩ := q_
          rw [g9] at hF
          dsimp only at hF
          refine am_Rr.call (pc := 24) (ls := [some (.ref 27), some (.int a), some (.int b), none]) (st := []) rfl (A_X8_isNoSquare d g9) ?_
          rintro _ _ ⟨rfl, rfl⟩
          show am_Rr _ _ (24, [some (.ref 27), some (.int a), some (.int b), none], [.int r7], x8) _
          refine am_Rr.go 1 (σ' := (if r7 = 0 then 33 else 27, [some (.ref 27), some (.int a), some (.int b), none], [], x8)) rfl ?_
          refine am_Rr.ite (fun h10 => ?_) (fun h10 => ?_)
          · rw [if_pos h10] at hF
            refine am_Rr.go 2 (σ' := (35, [some (.ref 27), some (.int a), some (.int b), none], [.int b, .ref 27], x8)) rfl ?_
            cases g13 : G_X8_kindOf b x8 with
            | none => rw [g13] at hF; cases hF
            | some q_ =>
              obtain ⟨r11, x12⟩ := q_
              rw [g13] at hF
              dsimp only at hF
              refine am_Rr.call (pc := 38) (ls := [some (.ref 27), some (.int a), some (.int b), none]) (st := []) rfl (A_X8_kindOf d g13) ?_
              rintro _ _ ⟨rfl, rfl⟩
              show am_Rr _ _ (38, [some (.ref 27), some (.int a), some (.int b), none], [.int r11], x12) _
              refine am_Rr.go 2 (σ' := (if r11 = 1 then 42 else 76, [some (.ref 27), some (.int a), some (.int b), none], [], x12)) rfl ?_
              refine am_Rr.ite (fun h14 => ?_) (fun h14 => ?_)
              · rw [if_pos h14] at hF
                refine am_Rr.go 2 (σ' := (45, [some (.ref 27), some (.int a), some (.int b), none], [.int (-3), .ref 27], x12)) rfl ?_
                cases g17 : G_X8_no (-3 : Int32) x12 with
                | none => rw [g17] at hF; cases hF
                | some q_ =>
                  obtain ⟨r15, x16⟩ := q_
                  rw [g17] at hF
                  dsimp only at hF
                  refine am_Rr.call (pc := 48) (ls := [some (.ref 27), some (.int a), some (.int b), none]) (st := []) rfl (A_X8_no d g17) ?_
                  rintro _ _ ⟨rfl, rfl⟩
                  show am_Rr _ _ (48, [some (.ref 27), some (.int a), some (.int b), none], [.int r15], x16) _
                  obtain rfl := Option.some.inj hF
                  exact am_Rr.ret (v := some (.int r15)) (x := x16) rfl (by trivial) ⟨rfl, rfl⟩
              · rw [if_neg h14] at hF
                refine am_Rr.go 3 (σ' := (81, [some (.ref 27), some (.int a), some (.int b), none], [.int a, .ref 29], x12)) rfl ?_
                by_cases c18 : 0 ≤ a.toInt ∧ a.toInt < 56
                · rw [if_pos c18] at hF
                  refine am_Rr.chk (σ' := (82, [some (.ref 27), some (.int a), some (.int b), none], [.int ((x12.2.2.1 29) a.toNatClampNeg)], x12)) rfl (by exact vp_in_iff.mpr c18) ?_
                  refine am_Rr.go 5 (σ' := (89, [some (.ref 27), some (.int a), some (.int b), some (.int ((x12.2.2.1 29) a.toNatClampNeg))], [.int b, .int a, .ref 29], x12)) rfl ?_
                  refine am_Rr.chk (σ' := (90, [some (.ref 27), some (.int a), some (.int b), some (.int ((x12.2.2.1 29) a.toNatClampNeg))], [], (am_sA x12 29 (upd (x12.2.2.1 29) a.toNatClampNeg b)))) rfl (by exact vp_in_iff.mpr c18) ?_
                  refine am_Rr.go 1 (σ' := (91, [some (.ref 27), some (.int a), some (.int b), some (.int ((x12.2.2.1 29) a.toNatClampNeg))], [.int ((x12.2.2.1 29) a.toNatClampNeg)], (am_sA x12 29 (upd (x12.2.2.1 29) a.toNatClampNeg b)))) rfl ?_
                  obtain rfl := Option.some.inj hF
                  exact am_Rr.ret (v := some (.int ((x12.2.2.1 29) a.toNatClampNeg))) (x := (am_sA x12 29 (upd (x12.2.2.1 29) a.toNatClampNeg b))) rfl (by trivial) ⟨rfl, rfl⟩
                · rw [if_neg c18] at hF
                  cases hF
          · rw [if_neg h10] at hF
            refine am_Rr.go 2 (σ' := (29, [some (.ref 27), some (.int a), some (.int b), none], [.int (-1), .ref 27], x8)) rfl ?_
            cases g21 : G_X8_no (-1 : Int32) x8 with
            | none => rw [g21] at hF; cases hF
            | some q_ =>
              obtain ⟨r19, x20⟩ := q_
              rw [g21] at hF
              dsimp only at hF
              refine am_Rr.call (pc := 32) (ls := [some (.ref 27), some (.int a), some (.int b), none]) (st := []) rfl (A_X8_no d g21) ?_
              rintro _ _ ⟨rfl, rfl⟩
              show am_Rr _ _ (32, [some (.ref 27), some (.int a), some (.int b), none], [.int r19], x20) _
              obtain rfl := Option.some.inj hF
              exact am_Rr.ret (v := some (.int r19)) (x := x20) rfl (by trivial) ⟨rfl, rfl⟩
      · rw [if_neg h6] at hF
        refine am_Rr.go 5 (σ' := (if ((2 : Int32) - a) ≤ b then 63 else 56, [some (.ref 27), some (.int a), some (.int b), none], [], x)) rfl ?_
        refine am_Rr.ite (fun h22 => ?_) (fun h22 => ?_)
        · rw [if_pos h22] at hF
          refine am_Rr.go 3 (σ' := (if b ≤ 9 then 76 else 69, [some (.ref 27), some (.int a), some (.int b), none], [], x)) rfl ?_
          refine am_Rr.ite (fun h23 => ?_) (fun h23 => ?_)
          · rw [if_pos h23] at hF
            refine am_Rr.go 3 (σ' := (81, [some (.ref 27), some (.int a), some (.int b), none], [.int a, .ref 29], x)) rfl ?_
            by_cases c24 : 0 ≤ a.toInt ∧ a.toInt < 56
            · rw [if_pos c24] at hF
              refine am_Rr.chk (σ' := (82, [some (.ref 27), some (.int a), some (.int b), none], [.int ((x.2.2.1 29) a.toNatClampNeg)], x)) rfl (by exact vp_in_iff.mpr c24) ?_
              refine am_Rr.go 5 (σ' := (89, [some (.ref 27), some (.int a), some (.int b), some (.int ((x.2.2.1 29) a.toNatClampNeg))], [.int b, .int a, .ref 29], x)) rfl ?_
              refine am_Rr.chk (σ' := (90, [some (.ref 27), some (.int a), some (.int b), some (.int ((x.2.2.1 29) a.toNatClampNeg))], [], (am_sA x 29 (upd (x.2.2.1 29) a.toNatClampNeg b)))) rfl (by exact vp_in_iff.mpr c24) ?_
              refine am_Rr.go 1 (σ' := (91, [some (.ref 27), some (.int a), some (.int b), some (.int ((x.2.2.1 29) a.toNatClampNeg))], [.int ((x.2.2.1 29) a.toNatClampNeg)], (am_sA x 29 (upd (x.2.2.1 29) a.toNatClampNeg b)))) rfl ?_
              obtain rfl := Option.some.inj hF
              exact am_Rr.ret (v := some (.int ((x.2.2.1 29) a.toNatClampNeg))) (x := (am_sA x 29 (upd (x.2.2.1 29) a.toNatClampNeg b))) rfl (by trivial) ⟨rfl, rfl⟩
            · rw [if_neg c24] at hF
              cases hF
          · rw [if_neg h23] at hF
            refine am_Rr.go 2 (σ' := (72, [some (.ref 27), some (.int a), some (.int b), none], [.int (-6), .ref 27], x)) rfl ?_
            cases g27 : G_X8_no (-6 : Int32) x with
            | none => rw [g27] at hF; cases hF
            | some q_ =>
              obtain ⟨r25, x26⟩ := q_
              rw [g27] at hF
              dsimp only at hF
              refine am_Rr.call (pc := 75) (ls := [some (.ref 27), some (.int a), some (.int b), none]) (st := []) rfl (A_X8_no d g27) ?_
              rintro _ _ ⟨rfl, rfl⟩
              show am_Rr _ _ (75, [some (.ref 27), some (.int a), some (.int b), none], [.int r25], x26) _
              obtain rfl := Option.some.inj hF
              exact am_Rr.ret (v := some (.int r25)) (x := x26) rfl (by trivial) ⟨rfl, rfl⟩
        · rw [if_neg h22] at hF
          refine am_Rr.go 2 (σ' := (59, [some (.ref 27), some (.int a), some (.int b), none], [.int (-4), .ref 27], x)) rfl ?_
          cases g30 : G_X8_no (-4 : Int32) x with
          | none => rw [g30] at hF; cases hF
          | some q_ =>
            obtain ⟨r28, x29⟩ := q_
            rw [g30] at hF
            dsimp only at hF
            refine am_Rr.call (pc := 62) (ls := [some (.ref 27), some (.int a), some (.int b), none]) (st := []) rfl (A_X8_no d g30) ?_
            rintro _ _ ⟨rfl, rfl⟩
            show am_Rr _ _ (62, [some (.ref 27), some (.int a), some (.int b), none], [.int r28], x29) _
            obtain rfl := Option.some.inj hF
            exact am_Rr.ret (v := some (.int r28)) (x := x29) rfl (by trivial) ⟨rfl, rfl⟩
    · rw [if_neg h5] at hF
      refine am_Rr.go 2 (σ' := (12, [some (.ref 27), some (.int a), some (.int b), none], [.int (-2), .ref 27], x)) rfl ?_
      cases g33 : G_X8_no (-2 : Int32) x with
      | none => rw [g33] at hF; cases hF
      | some q_ =>
        obtain ⟨r31, x32⟩ := q_
        rw [g33] at hF
        dsimp only at hF
        refine am_Rr.call (pc := 15) (ls := [some (.ref 27), some (.int a), some (.int b), none]) (st := []) rfl (A_X8_no d g33) ?_
        rintro _ _ ⟨rfl, rfl⟩
        show am_Rr _ _ (15, [some (.ref 27), some (.int a), some (.int b), none], [.int r31], x32) _
        obtain rfl := Option.some.inj hF
        exact am_Rr.ret (v := some (.int r31)) (x := x32) rfl (by trivial) ⟨rfl, rfl⟩
noncomputable def G_X8_seeker (a : Int32) (b : Int32) (x : am_X) : Option (Int32 × am_X) := (match G_X8_isNoSeeker a x with | none => none | some (r1, x2) => (if r1 = 0 then (if b = 0 then (if 0 ≤ (((10 : Int32) + ((2 : Int32) * a)) + b).toInt ∧ (((10 : Int32) + ((2 : Int32) * a)) + b).toInt < 56 then some (((x2.2.2.1 29) (((10 : Int32) + ((2 : Int32) * a)) + b).toNatClampNeg), x2) else none) else (if b = 1 then (if 0 ≤ (((10 : Int32) + ((2 : Int32) * a)) + b).toInt ∧ (((10 : Int32) + ((2 : Int32) * a)) + b).toInt < 56 then some (((x2.2.2.1 29) (((10 : Int32) + ((2 : Int32) * a)) + b).toNatClampNeg), x2) else none) else (match G_X8_no (-2 : Int32) x2 with | none => none | some (r9, x10) => some (r9, x10)))) else (match G_X8_no (-1 : Int32) x2 with | none => none | some (r12, x13) => some (r12, x13))))
theorem A_X8_seeker (d : Nat) {a : Int32} {b : Int32} {x : am_X} {res : Int32 × am_X} (hF : G_X8_seeker a b x = some res) : am_T (d + 3) mX8_seeker [.ref 27, .int a, .int b] x (fun ro y => ro = some (.int res.1) ∧ res.2 = y) := by
  refine am_T.of rfl ?_
  show am_Rr (d + 2) kX8_seeker (0, [some (.ref 27), some (.int a), some (.int b)], [], x) _
  unfold G_X8_seeker at hF
  refine am_Rr.go 2 (σ' := (2, [some (.ref 27), some (.int a), some (.int b)], [.int a, .ref 27], x)) rfl ?_
  cases g3 : G_X8_isNoSeeker a x with
  | none => rw [g3] at hF; cases hF
  | some q_ =>
    obtain ⟨r1, x2⟩ := q_
    rw [g3] at hF
    dsimp only at hF
    refine am_Rr.call (pc := 5) (ls := [some (.ref 27), some (.int a), some (.int b)]) (st := []) rfl (A_X8_isNoSeeker d g3) ?_
    rintro _ _ ⟨rfl, rfl⟩
    show am_Rr _ _ (5, [some (.ref 27), some (.int a), some (.int b)], [.int r1], x2) _
    refine am_Rr.go 1 (σ' := (if r1 = 0 then 14 else 8, [some (.ref 27), some (.int a), some (.int b)], [], x2)) rfl ?_
    refine am_Rr.ite (fun h4 => ?_) (fun h4 => ?_)
    · rw [if_pos h4] at hF
      refine am_Rr.go 2 (σ' := (if b = 0 then 32 else 18, [some (.ref 27), some (.int a), some (.int b)], [], x2)) rfl ?_
      refine am_Rr.ite (fun h5 => ?_) (fun h5 => ?_)
      · rw [if_pos h5] at hF
        refine am_Rr.go 9 (σ' := (44, [some (.ref 27), some (.int a), some (.int b)], [.int (((10 : Int32) + ((2 : Int32) * a)) + b), .ref 29], x2)) rfl ?_
        by_cases c6 : 0 ≤ (((10 : Int32) + ((2 : Int32) * a)) + b).toInt ∧ (((10 : Int32) + ((2 : Int32) * a)) + b).toInt < 56
        · rw [if_pos c6] at hF
          refine am_Rr.chk (σ' := (45, [some (.ref 27), some (.int a), some (.int b)], [.int ((x2.2.2.1 29) (((10 : Int32) + ((2 : Int32) * a)) + b).toNatClampNeg)], x2)) rfl (by exact vp_in_iff.mpr c6) ?_
          obtain rfl := Option.some.inj hF
          exact am_Rr.ret (v := some (.int ((x2.2.2.1 29) (((10 : Int32) + ((2 : Int32) * a)) + b).toNatClampNeg))) (x := x2) rfl (by trivial) ⟨rfl, rfl⟩
        · rw [if_neg c6] at hF
          cases hF
      · rw [if_neg h5] at hF
        refine am_Rr.go 3 (σ' := (if b = 1 then 32 else 23, [some (.ref 27), some (.int a), some (.int b)], [], x2)) rfl ?_
        refine am_Rr.ite (fun h7 => ?_) (fun h7 => ?_)
        · rw [if_pos h7] at hF
          refine am_Rr.go 9 (σ' := (44, [some (.ref 27), some (.int a), some (.int b)], [.int (((10 : Int32) + ((2 : Int32) * a)) + b), .ref 29], x2)) rfl ?_
          by_cases c8 : 0 ≤ (((10 : Int32) + ((2 : Int32) * a)) + b).toInt ∧ (((10 : Int32) + ((2 : Int32) * a)) + b).toInt < 56
          · rw [if_pos c8] at hF
            refine am_Rr.chk (σ' := (45, [some (.ref 27), some (.int a), some (.int b)], [.int ((x2.2.2.1 29) (((10 : Int32) + ((2 : Int32) * a)) + b).toNatClampNeg)], x2)) rfl (by exact vp_in_iff.mpr c8) ?_
            obtain rfl := Option.some.inj hF
            exact am_Rr.ret (v := some (.int ((x2.2.2.1 29) (((10 : Int32) + ((2 : Int32) * a)) + b).toNatClampNeg))) (x := x2) rfl (by trivial) ⟨rfl, rfl⟩
          · rw [if_neg c8] at hF
            cases hF
        · rw [if_neg h7] at hF
          refine am_Rr.go 2 (σ' := (26, [some (.ref 27), some (.int a), some (.int b)], [.int (-2), .ref 27], x2)) rfl ?_
          cases g11 : G_X8_no (-2 : Int32) x2 with
          | none => rw [g11] at hF; cases hF
          | some q_ =>
            obtain ⟨r9, x10⟩ := q_
            rw [g11] at hF
            dsimp only at hF
            refine am_Rr.call (pc := 29) (ls := [some (.ref 27), some (.int a), some (.int b)]) (st := []) rfl (A_X8_no d g11) ?_
            rintro _ _ ⟨rfl, rfl⟩
            show am_Rr _ _ (29, [some (.ref 27), some (.int a), some (.int b)], [.int r9], x10) _
            refine am_Rr.go 1 (σ' := (45, [some (.ref 27), some (.int a), some (.int b)], [.int r9], x10)) rfl ?_
            obtain rfl := Option.some.inj hF
            exact am_Rr.ret (v := some (.int r9)) (x := x10) rfl (by trivial) ⟨rfl, rfl⟩
    · rw [if_neg h4] at hF
      refine am_Rr.go 2 (σ' := (10, [some (.ref 27), some (.int a), some (.int b)], [.int (-1), .ref 27], x2)) rfl ?_
      cases g14 : G_X8_no (-1 : Int32) x2 with
      | none => rw [g14] at hF; cases hF
      | some q_ =>
        obtain ⟨r12, x13⟩ := q_
        rw [g14] at hF
        dsimp only at hF
        refine am_Rr.call (pc := 13) (ls := [some (.ref 27), some (.int a), some (.int b)]) (st := []) rfl (A_X8_no d g14) ?_
        rintro _ _ ⟨rfl, rfl⟩
        show am_Rr _ _ (13, [some (.ref 27), some (.int a), some (.int b)], [.int r12], x13) _
        obtain rfl := Option.some.inj hF
        exact am_Rr.ret (v := some (.int r12)) (x := x13) rfl (by trivial) ⟨rfl, rfl⟩
noncomputable def G_X8_stand (a : Int32) (b : Int32) (x : am_X) : Option (Int32 × am_X) := (match G_X8_isNoSeeker a x with | none => none | some (r1, x2) => (if r1 = 0 then (match G_X8_isNoSquare b x2 with | none => none | some (r5, x6) => (if r5 = 0 then (if 0 ≤ (((10 : Int32) + ((2 : Int32) * a)) + 1).toInt ∧ (((10 : Int32) + ((2 : Int32) * a)) + 1).toInt < 56 then some (((x6.2.2.1 29) (((10 : Int32) + ((2 : Int32) * a)) + 1).toNatClampNeg), (am_sA x6 29 (upd (x6.2.2.1 29) ((((10 : Int32) + ((2 : Int32) * a)) + 1).toNatClampNeg) b))) else none) else (match G_X8_no (-1 : Int32) x6 with | none => none | some (r10, x11) => some (r10, x11)))) else (match G_X8_no (-1 : Int32) x2 with | none => none | some (r13, x14) => some (r13, x14))))
theorem A_X8_stand (d : Nat) {a : Int32} {b : Int32} {x : am_X} {res : Int32 × am_X} (hF : G_X8_stand a b x = some res) : am_T (d + 3) mX8_stand [.ref 27, .int a, .int b] x (fun ro y => ro = some (.int res.1) ∧ res.2 = y) := by
  refine am_T.of rfl ?_
  show am_Rr (d + 2) kX8_stand (0, [some (.ref 27), some (.int a), some (.int b), none], [], x) _
  unfold G_X8_stand at hF
  refine am_Rr.go 2 (σ' := (2, [some (.ref 27), some (.int a), some (.int b), none], [.int a, .ref 27], x)) rfl ?_
  cases g3 : G_X8_isNoSeeker a x with
  | none => rw [g3] at hF; cases hF
  | some q_ =>
    obtain ⟨r1, x2⟩ := q_
    rw [g3] at hF
    dsimp only at hF
    refine am_Rr.call (pc := 5) (ls := [some (.ref 27), some (.int a), some (.int b), none]) (st := []) rfl (A_X8_isNoSeeker d g3) ?_
    rintro _ _ ⟨rfl, rfl⟩
    show am_Rr _ _ (5, [some (.ref 27), some (.int a), some (.int b), none], [.int r1], x2) _
    refine am_Rr.go 1 (σ' := (if r1 = 0 then 8 else 15, [some (.ref 27), some (.int a), some (.int b), none], [], x2)) rfl ?_
    refine am_Rr.ite (fun h4 => ?_) (fun h4 => ?_)
    · rw [if_pos h4] at hF
      refine am_Rr.go 1 (σ' := (9, [some (.ref 27), some (.int a), some (.int b), none], [.int b], x2)) rfl ?_
      cases g7 : G_X8_isNoSquare b x2 with
      | none => rw [g7] at hF; cases hF
      | some q_ =>
        obtain ⟨r5, x6⟩ := q_
        rw [g7] at hF
        dsimp only at hF
        refine am_Rr.call (pc := 12) (ls := [some (.ref 27), some (.int a), some (.int b), none]) (st := []) rfl (A_X8_isNoSquare d g7) ?_
        rintro _ _ ⟨rfl, rfl⟩
        show am_Rr _ _ (12, [some (.ref 27), some (.int a), some (.int b), none], [.int r5], x6) _
        refine am_Rr.go 1 (σ' := (if r5 = 0 then 21 else 15, [some (.ref 27), some (.int a), some (.int b), none], [], x6)) rfl ?_
        refine am_Rr.ite (fun h8 => ?_) (fun h8 => ?_)
        · rw [if_pos h8] at hF
          refine am_Rr.go 9 (σ' := (33, [some (.ref 27), some (.int a), some (.int b), none], [.int (((10 : Int32) + ((2 : Int32) * a)) + 1), .ref 29], x6)) rfl ?_
          by_cases c9 : 0 ≤ (((10 : Int32) + ((2 : Int32) * a)) + 1).toInt ∧ (((10 : Int32) + ((2 : Int32) * a)) + 1).toInt < 56
          · rw [if_pos c9] at hF
            refine am_Rr.chk (σ' := (34, [some (.ref 27), some (.int a), some (.int b), none], [.int ((x6.2.2.1 29) (((10 : Int32) + ((2 : Int32) * a)) + 1).toNatClampNeg)], x6)) rfl (by exact vp_in_iff.mpr c9) ?_
            refine am_Rr.go 11 (σ' := (48, [some (.ref 27), some (.int a), some (.int b), some (.int ((x6.2.2.1 29) (((10 : Int32) + ((2 : Int32) * a)) + 1).toNatClampNeg))], [.int b, .int (((10 : Int32) + ((2 : Int32) * a)) + 1), .ref 29], x6)) rfl ?_
            refine am_Rr.chk (σ' := (49, [some (.ref 27), some (.int a), some (.int b), some (.int ((x6.2.2.1 29) (((10 : Int32) + ((2 : Int32) * a)) + 1).toNatClampNeg))], [], (am_sA x6 29 (upd (x6.2.2.1 29) ((((10 : Int32) + ((2 : Int32) * a)) + 1).toNatClampNeg) b)))) rfl (by exact vp_in_iff.mpr c9) ?_
            refine am_Rr.go 1 (σ' := (50, [some (.ref 27), some (.int a), some (.int b), some (.int ((x6.2.2.1 29) (((10 : Int32) + ((2 : Int32) * a)) + 1).toNatClampNeg))], [.int ((x6.2.2.1 29) (((10 : Int32) + ((2 : Int32) * a)) + 1).toNatClampNeg)], (am_sA x6 29 (upd (x6.2.2.1 29) ((((10 : Int32) + ((2 : Int32) * a)) + 1).toNatClampNeg) b)))) rfl ?_
            obtain rfl := Option.some.inj hF
            exact am_Rr.ret (v := some (.int ((x6.2.2.1 29) (((10 : Int32) + ((2 : Int32) * a)) + 1).toNatClampNeg))) (x := (am_sA x6 29 (upd (x6.2.2.1 29) ((((10 : Int32) + ((2 : Int32) * a)) + 1).toNatClampNeg) b))) rfl (by trivial) ⟨rfl, rfl⟩
          · rw [if_neg c9] at hF
            cases hF
        · rw [if_neg h8] at hF
          refine am_Rr.go 2 (σ' := (17, [some (.ref 27), some (.int a), some (.int b), none], [.int (-1), .ref 27], x6)) rfl ?_
          cases g12 : G_X8_no (-1 : Int32) x6 with
          | none => rw [g12] at hF; cases hF
          | some q_ =>
            obtain ⟨r10, x11⟩ := q_
            rw [g12] at hF
            dsimp only at hF
            refine am_Rr.call (pc := 20) (ls := [some (.ref 27), some (.int a), some (.int b), none]) (st := []) rfl (A_X8_no d g12) ?_
            rintro _ _ ⟨rfl, rfl⟩
            show am_Rr _ _ (20, [some (.ref 27), some (.int a), some (.int b), none], [.int r10], x11) _
            obtain rfl := Option.some.inj hF
            exact am_Rr.ret (v := some (.int r10)) (x := x11) rfl (by trivial) ⟨rfl, rfl⟩
    · rw [if_neg h4] at hF
      refine am_Rr.go 2 (σ' := (17, [some (.ref 27), some (.int a), some (.int b), none], [.int (-1), .ref 27], x2)) rfl ?_
      cases g15 : G_X8_no (-1 : Int32) x2 with
      | none => rw [g15] at hF; cases hF
      | some q_ =>
        obtain ⟨r13, x14⟩ := q_
        rw [g15] at hF
        dsimp only at hF
        refine am_Rr.call (pc := 20) (ls := [some (.ref 27), some (.int a), some (.int b), none]) (st := []) rfl (A_X8_no d g15) ?_
        rintro _ _ ⟨rfl, rfl⟩
        show am_Rr _ _ (20, [some (.ref 27), some (.int a), some (.int b), none], [.int r13], x14) _
        obtain rfl := Option.some.inj hF
        exact am_Rr.ret (v := some (.int r13)) (x := x14) rfl (by trivial) ⟨rfl, rfl⟩
noncomputable def L_X8_toRoad_5 : Nat → Int32 → Int32 → Int32 → am_X → Option (Int32 × Int32 × Int32 × am_X)
  | 0, _, _, _, _ => none
  | n + 1, v1, v2, v3, x => (if (36 : Int32) ≤ v3 then some (v1, v2, v3, x) else (match G_X8_kindOf v3 x with | none => none | some (r2, x3) => (if r2 = 5 then (match G_X8_apart v1 v3 x3 with | none => none | some (r6, x7) => L_X8_toRoad_5 n v1 (if r6 < v2 then r6 else v2) (v3 + 1) x7) else L_X8_toRoad_5 n v1 v2 (v3 + 1) x3)))
theorem L_X8_toRoad_5_ok (d : Nat) (post : Option Value → am_X → Prop) (w1 : Int32) (w2 : Int32) (w3 : Int32) (y : am_X) : ∀ (n : Nat) (v1 : Int32) (v2 : Int32) (v3 : Int32) (x : am_X), L_X8_toRoad_5 n v1 v2 v3 x = some (w1, w2, w3, y) → am_Rr (d + 2) kX8_toRoad (41, [some (.ref 27), some (.int w1), some (.int w2), some (.int w3)], [], y) post → am_Rr (d + 2) kX8_toRoad (5, [some (.ref 27), some (.int v1), some (.int v2), some (.int v3)], [], x) post := by
  intro n
  induction n with
  | zero =>
    intro v1 v2 v3 x hF
    cases hF
  | succ n ih =>
    intro v1 v2 v3 x hF hk
    rw [L_X8_toRoad_5] at hF
    refine am_Rr.go 3 (σ' := (if (36 : Int32) ≤ v3 then 41 else 11, [some (.ref 27), some (.int v1), some (.int v2), some (.int v3)], [], x)) rfl ?_
    refine am_Rr.ite (fun h1 => ?_) (fun h1 => ?_)
    · rw [if_pos h1] at hF
      cases hF
      exact hk
    · rw [if_neg h1] at hF
      refine am_Rr.go 2 (σ' := (13, [some (.ref 27), some (.int v1), some (.int v2), some (.int v3)], [.int v3, .ref 27], x)) rfl ?_
      cases g4 : G_X8_kindOf v3 x with
      | none => rw [g4] at hF; cases hF
      | some q_ =>
        obtain ⟨r2, x3⟩ := q_
        rw [g4] at hF
        dsimp only at hF
        refine am_Rr.call (pc := 16) (ls := [some (.ref 27), some (.int v1), some (.int v2), some (.int v3)]) (st := []) rfl (A_X8_kindOf d g4) ?_
        rintro _ _ ⟨rfl, rfl⟩
        show am_Rr _ _ (16, [some (.ref 27), some (.int v1), some (.int v2), some (.int v3)], [.int r2], x3) _
        refine am_Rr.go 2 (σ' := (if r2 = 5 then 20 else 33, [some (.ref 27), some (.int v1), some (.int v2), some (.int v3)], [], x3)) rfl ?_
        refine am_Rr.ite (fun h5 => ?_) (fun h5 => ?_)
        · rw [if_pos h5] at hF
          refine am_Rr.go 4 (σ' := (24, [some (.ref 27), some (.int v1), some (.int v2), some (.int v3)], [.int v3, .int v1, .ref 27, .int v2], x3)) rfl ?_
          cases g8 : G_X8_apart v1 v3 x3 with
          | none => rw [g8] at hF; cases hF
          | some q_ =>
            obtain ⟨r6, x7⟩ := q_
            rw [g8] at hF
            dsimp only at hF
            refine am_Rr.call (pc := 27) (ls := [some (.ref 27), some (.int v1), some (.int v2), some (.int v3)]) (st := [.int v2]) rfl (A_X8_apart d g8) ?_
            rintro _ _ ⟨rfl, rfl⟩
            show am_Rr _ _ (27, [some (.ref 27), some (.int v1), some (.int v2), some (.int v3)], [.int r6, .int v2], x7) _
            refine am_Rr.go 5 (σ' := (5, [some (.ref 27), some (.int v1), some (.int (if r6 < v2 then r6 else v2)), some (.int (v3 + 1))], [], x7)) rfl ?_
            exact ih _ _ _ _ hF hk
        · rw [if_neg h5] at hF
          refine am_Rr.go 4 (σ' := (5, [some (.ref 27), some (.int v1), some (.int v2), some (.int (v3 + 1))], [], x3)) rfl ?_
          exact ih _ _ _ _ hF hk
noncomputable def G_X8_toRoad (a : Int32) (x : am_X) : Option (Int32 × am_X) := (match L_X8_toRoad_5 1000 a (100000 : Int32) (0 : Int32) x with | none => none | some (v10, v11, v12, x9) => some (v11, x9))
theorem A_X8_toRoad (d : Nat) {a : Int32} {x : am_X} {res : Int32 × am_X} (hF : G_X8_toRoad a x = some res) : am_T (d + 3) mX8_toRoad [.ref 27, .int a] x (fun ro y => ro = some (.int res.1) ∧ res.2 = y) := by
  refine am_T.of rfl ?_
  show am_Rr (d + 2) kX8_toRoad (0, [some (.ref 27), some (.int a), none, none], [], x) _
  unfold G_X8_toRoad at hF
  refine am_Rr.go 4 (σ' := (5, [some (.ref 27), some (.int a), some (.int 100000), some (.int 0)], [], x)) rfl ?_
  cases g13 : L_X8_toRoad_5 1000 a (100000 : Int32) (0 : Int32) x with
  | none => rw [g13] at hF; cases hF
  | some q_ =>
    obtain ⟨v10, v11, v12, x9⟩ := q_
    rw [g13] at hF
    dsimp only at hF
    refine L_X8_toRoad_5_ok d _ v10 v11 v12 x9 _ _ _ _ _ g13 ?_
    refine am_Rr.go 1 (σ' := (42, [some (.ref 27), some (.int v10), some (.int v11), some (.int v12)], [.int v11], x9)) rfl ?_
    obtain rfl := Option.some.inj hF
    exact am_Rr.ret (v := some (.int v11)) (x := x9) rfl (by trivial) ⟨rfl, rfl⟩
noncomputable def L_X8_besideInSet_4 : Nat → Int32 → Int32 → Int32 → am_X → Option (Int32 × Int32 × Int32 × am_X)
  | 0, _, _, _, _ => none
  | n + 1, v1, v2, v3, x => (if (4 : Int32) ≤ v3 then some (v1, v2, v3, x) else (match G_X8_beside v1 v3 x with | none => none | some (r2, x3) => (if r2 = (-9) then L_X8_besideInSet_4 n v1 (v2 + 0) (v3 + 1) x3 else (if 0 ≤ r2.toInt ∧ r2.toInt < 36 then (if ((x3.2.2.1 39) r2.toNatClampNeg) = 0 then L_X8_besideInSet_4 n v1 (v2 + 0) (v3 + 1) x3 else L_X8_besideInSet_4 n v1 (v2 + 1) (v3 + 1) x3) else none))))
theorem L_X8_besideInSet_4_ok (d : Nat) (post : Option Value → am_X → Prop) (w1 : Int32) (w2 : Int32) (w3 : Int32) (y : am_X) : ∀ (n : Nat) (v1 : Int32) (v2 : Int32) (v3 : Int32) (x : am_X), L_X8_besideInSet_4 n v1 v2 v3 x = some (w1, w2, w3, y) → am_Rr (d + 2) kX8_besideInSet (47, [some (.ref 27), some (.int w1), some (.int w2), some (.int w3), none], [], y) post → am_Rr (d + 2) kX8_besideInSet (4, [some (.ref 27), some (.int v1), some (.int v2), some (.int v3), none], [], x) post := by
  intro n
  induction n with
  | zero =>
    intro v1 v2 v3 x hF
    cases hF
  | succ n ih =>
    intro v1 v2 v3 x hF hk
    rw [L_X8_besideInSet_4] at hF
    refine am_Rr.go 3 (σ' := (if (4 : Int32) ≤ v3 then 47 else 9, [some (.ref 27), some (.int v1), some (.int v2), some (.int v3), none], [], x)) rfl ?_
    refine am_Rr.ite (fun h1 => ?_) (fun h1 => ?_)
    · rw [if_pos h1] at hF
      cases hF
      exact hk
    · rw [if_neg h1] at hF
      refine am_Rr.go 2 (σ' := (11, [some (.ref 27), some (.int v1), some (.int v2), some (.int v3), none], [.int v3, .int v1], x)) rfl ?_
      cases g4 : G_X8_beside v1 v3 x with
      | none => rw [g4] at hF; cases hF
      | some q_ =>
        obtain ⟨r2, x3⟩ := q_
        rw [g4] at hF
        dsimp only at hF
        refine am_Rr.call (pc := 14) (ls := [some (.ref 27), some (.int v1), some (.int v2), some (.int v3), none]) (st := []) rfl (A_X8_beside d g4) ?_
        rintro _ _ ⟨rfl, rfl⟩
        show am_Rr _ _ (14, [some (.ref 27), some (.int v1), some (.int v2), some (.int v3), none], [.int r2], x3) _
        refine am_Rr.go 5 (σ' := (if r2 = (-9) then 38 else 24, [some (.ref 27), some (.int v1), some (.int v2), some (.int v3), some (.int r2)], [.int v2], x3)) rfl ?_
        refine am_Rr.ite (fun h5 => ?_) (fun h5 => ?_)
        · rw [if_pos h5] at hF
          refine am_Rr.go 5 (σ' := (4, [some (.ref 27), some (.int v1), some (.int (v2 + 0)), some (.int (v3 + 1)), some (.int r2)], [], x3)) rfl ?_
          refine am_Rr.weak (ls0 := [some (.ref 27), some (.int v1), some (.int (v2 + 0)), some (.int (v3 + 1)), none]) (by simp [am_le]) ?_
          exact ih _ _ _ _ hF hk
        · rw [if_neg h5] at hF
          refine am_Rr.go 3 (σ' := (30, [some (.ref 27), some (.int v1), some (.int v2), some (.int v3), some (.int r2)], [.int r2, .ref 39, .int v2], x3)) rfl ?_
          by_cases c6 : 0 ≤ r2.toInt ∧ r2.toInt < 36
          · rw [if_pos c6] at hF
            refine am_Rr.chk (σ' := (31, [some (.ref 27), some (.int v1), some (.int v2), some (.int v3), some (.int r2)], [.int ((x3.2.2.1 39) r2.toNatClampNeg), .int v2], x3)) rfl (by exact vp_in_iff.mpr c6) ?_
            refine am_Rr.go 1 (σ' := (if ((x3.2.2.1 39) r2.toNatClampNeg) = 0 then 38 else 34, [some (.ref 27), some (.int v1), some (.int v2), some (.int v3), some (.int r2)], [.int v2], x3)) rfl ?_
            refine am_Rr.ite (fun h7 => ?_) (fun h7 => ?_)
            · rw [if_pos h7] at hF
              refine am_Rr.go 5 (σ' := (4, [some (.ref 27), some (.int v1), some (.int (v2 + 0)), some (.int (v3 + 1)), some (.int r2)], [], x3)) rfl ?_
              refine am_Rr.weak (ls0 := [some (.ref 27), some (.int v1), some (.int (v2 + 0)), some (.int (v3 + 1)), none]) (by simp [am_le]) ?_
              exact ih _ _ _ _ hF hk
            · rw [if_neg h7] at hF
              refine am_Rr.go 6 (σ' := (4, [some (.ref 27), some (.int v1), some (.int (v2 + 1)), some (.int (v3 + 1)), some (.int r2)], [], x3)) rfl ?_
              refine am_Rr.weak (ls0 := [some (.ref 27), some (.int v1), some (.int (v2 + 1)), some (.int (v3 + 1)), none]) (by simp [am_le]) ?_
              exact ih _ _ _ _ hF hk
          · rw [if_neg c6] at hF
            cases hF
noncomputable def G_X8_besideInSet (a : Int32) (x : am_X) : Option (Int32 × am_X) := (match L_X8_besideInSet_4 1000 a (0 : Int32) (0 : Int32) x with | none => none | some (v9, v10, v11, x8) => some (v10, x8))
theorem A_X8_besideInSet (d : Nat) {a : Int32} {x : am_X} {res : Int32 × am_X} (hF : G_X8_besideInSet a x = some res) : am_T (d + 3) mX8_besideInSet [.ref 27, .int a] x (fun ro y => ro = some (.int res.1) ∧ res.2 = y) := by
  refine am_T.of rfl ?_
  show am_Rr (d + 2) kX8_besideInSet (0, [some (.ref 27), some (.int a), none, none, none], [], x) _
  unfold G_X8_besideInSet at hF
  refine am_Rr.go 4 (σ' := (4, [some (.ref 27), some (.int a), some (.int 0), some (.int 0), none], [], x)) rfl ?_
  cases g12 : L_X8_besideInSet_4 1000 a (0 : Int32) (0 : Int32) x with
  | none => rw [g12] at hF; cases hF
  | some q_ =>
    obtain ⟨v9, v10, v11, x8⟩ := q_
    rw [g12] at hF
    dsimp only at hF
    refine L_X8_besideInSet_4_ok d _ v9 v10 v11 x8 _ _ _ _ _ g12 ?_
    refine am_Rr.go 1 (σ' := (48, [some (.ref 27), some (.int v9), some (.int v10), some (.int v11), none], [.int v10], x8)) rfl ?_
    obtain rfl := Option.some.inj hF
    exact am_Rr.ret (v := some (.int v10)) (x := x8) rfl (by trivial) ⟨rfl, rfl⟩
noncomputable def G_X8_refusal (a : Int32) (b : Int32) (e : Int32) (x : am_X) : Option (Int32 × am_X) := (match G_X8_isNoSeeker a x with | none => none | some (r1, x2) => (if r1 = 0 then (if b < 0 then (match G_X8_no (-4 : Int32) x2 with | none => none | some (r6, x7) => some (r6, x7)) else (if (0 : Int32) ≤ e then (if (999 : Int32) < b then (match G_X8_no (-6 : Int32) x2 with | none => none | some (r11, x12) => some (r11, x12)) else (if e ≤ 60 then some ((0 : Int32), x2) else (match G_X8_no (-6 : Int32) x2 with | none => none | some (r15, x16) => some (r15, x16)))) else (match G_X8_no (-4 : Int32) x2 with | none => none | some (r18, x19) => some (r18, x19)))) else (match G_X8_no (-1 : Int32) x2 with | none => none | some (r21, x22) => some (r21, x22))))
theorem A_X8_refusal (d : Nat) {a : Int32} {b : Int32} {e : Int32} {x : am_X} {res : Int32 × am_X} (hF : G_X8_refusal a b e x = some res) : am_T (d + 3) mX8_refusal [.ref 27, .int a, .int b, .int e] x (fun ro y => ro = some (.int res.1) ∧ res.2 = y) := by
  refine am_T.of rfl ?_
  show am_Rr (d + 2) kX8_refusal (0, [some (.ref 27), some (.int a), some (.int b), some (.int e)], [], x) _
  unfold G_X8_refusal at hF
  refine am_Rr.go 2 (σ' := (2, [some (.ref 27), some (.int a), some (.int b), some (.int e)], [.int a, .ref 27], x)) rfl ?_
  cases g3 : G_X8_isNoSeeker a x with
  | none => rw [g3] at hF; cases hF
  | some q_ =>
    obtain ⟨r1, x2⟩ := q_
    rw [g3] at hF
    dsimp only at hF
    refine am_Rr.call (pc := 5) (ls := [some (.ref 27), some (.int a), some (.int b), some (.int e)]) (st := []) rfl (A_X8_isNoSeeker d g3) ?_
    rintro _ _ ⟨rfl, rfl⟩
    show am_Rr _ _ (5, [some (.ref 27), some (.int a), some (.int b), some (.int e)], [.int r1], x2) _
    refine am_Rr.go 1 (σ' := (if r1 = 0 then 14 else 8, [some (.ref 27), some (.int a), some (.int b), some (.int e)], [], x2)) rfl ?_
    refine am_Rr.ite (fun h4 => ?_) (fun h4 => ?_)
    · rw [if_pos h4] at hF
      refine am_Rr.go 2 (σ' := (if b < 0 then 22 else 18, [some (.ref 27), some (.int a), some (.int b), some (.int e)], [], x2)) rfl ?_
      refine am_Rr.ite (fun h5 => ?_) (fun h5 => ?_)
      · rw [if_pos h5] at hF
        refine am_Rr.go 2 (σ' := (25, [some (.ref 27), some (.int a), some (.int b), some (.int e)], [.int (-4), .ref 27], x2)) rfl ?_
        cases g8 : G_X8_no (-4 : Int32) x2 with
        | none => rw [g8] at hF; cases hF
        | some q_ =>
          obtain ⟨r6, x7⟩ := q_
          rw [g8] at hF
          dsimp only at hF
          refine am_Rr.call (pc := 28) (ls := [some (.ref 27), some (.int a), some (.int b), some (.int e)]) (st := []) rfl (A_X8_no d g8) ?_
          rintro _ _ ⟨rfl, rfl⟩
          show am_Rr _ _ (28, [some (.ref 27), some (.int a), some (.int b), some (.int e)], [.int r6], x7) _
          obtain rfl := Option.some.inj hF
          exact am_Rr.ret (v := some (.int r6)) (x := x7) rfl (by trivial) ⟨rfl, rfl⟩
      · rw [if_neg h5] at hF
        refine am_Rr.go 2 (σ' := (if (0 : Int32) ≤ e then 29 else 22, [some (.ref 27), some (.int a), some (.int b), some (.int e)], [], x2)) rfl ?_
        refine am_Rr.ite (fun h9 => ?_) (fun h9 => ?_)
        · rw [if_pos h9] at hF
          refine am_Rr.go 3 (σ' := (if (999 : Int32) < b then 42 else 36, [some (.ref 27), some (.int a), some (.int b), some (.int e)], [], x2)) rfl ?_
          refine am_Rr.ite (fun h10 => ?_) (fun h10 => ?_)
          · rw [if_pos h10] at hF
            refine am_Rr.go 2 (σ' := (45, [some (.ref 27), some (.int a), some (.int b), some (.int e)], [.int (-6), .ref 27], x2)) rfl ?_
            cases g13 : G_X8_no (-6 : Int32) x2 with
            | none => rw [g13] at hF; cases hF
            | some q_ =>
              obtain ⟨r11, x12⟩ := q_
              rw [g13] at hF
              dsimp only at hF
              refine am_Rr.call (pc := 48) (ls := [some (.ref 27), some (.int a), some (.int b), some (.int e)]) (st := []) rfl (A_X8_no d g13) ?_
              rintro _ _ ⟨rfl, rfl⟩
              show am_Rr _ _ (48, [some (.ref 27), some (.int a), some (.int b), some (.int e)], [.int r11], x12) _
              refine am_Rr.go 1 (σ' := (52, [some (.ref 27), some (.int a), some (.int b), some (.int e)], [.int r11], x12)) rfl ?_
              obtain rfl := Option.some.inj hF
              exact am_Rr.ret (v := some (.int r11)) (x := x12) rfl (by trivial) ⟨rfl, rfl⟩
          · rw [if_neg h10] at hF
            refine am_Rr.go 3 (σ' := (if e ≤ 60 then 51 else 42, [some (.ref 27), some (.int a), some (.int b), some (.int e)], [], x2)) rfl ?_
            refine am_Rr.ite (fun h14 => ?_) (fun h14 => ?_)
            · rw [if_pos h14] at hF
              refine am_Rr.go 1 (σ' := (52, [some (.ref 27), some (.int a), some (.int b), some (.int e)], [.int 0], x2)) rfl ?_
              obtain rfl := Option.some.inj hF
              exact am_Rr.ret (v := some (.int 0)) (x := x2) rfl (by trivial) ⟨rfl, rfl⟩
            · rw [if_neg h14] at hF
              refine am_Rr.go 2 (σ' := (45, [some (.ref 27), some (.int a), some (.int b), some (.int e)], [.int (-6), .ref 27], x2)) rfl ?_
              cases g17 : G_X8_no (-6 : Int32) x2 with
              | none => rw [g17] at hF; cases hF
              | some q_ =>
                obtain ⟨r15, x16⟩ := q_
                rw [g17] at hF
                dsimp only at hF
                refine am_Rr.call (pc := 48) (ls := [some (.ref 27), some (.int a), some (.int b), some (.int e)]) (st := []) rfl (A_X8_no d g17) ?_
                rintro _ _ ⟨rfl, rfl⟩
                show am_Rr _ _ (48, [some (.ref 27), some (.int a), some (.int b), some (.int e)], [.int r15], x16) _
                refine am_Rr.go 1 (σ' := (52, [some (.ref 27), some (.int a), some (.int b), some (.int e)], [.int r15], x16)) rfl ?_
                obtain rfl := Option.some.inj hF
                exact am_Rr.ret (v := some (.int r15)) (x := x16) rfl (by trivial) ⟨rfl, rfl⟩
        · rw [if_neg h9] at hF
          refine am_Rr.go 2 (σ' := (25, [some (.ref 27), some (.int a), some (.int b), some (.int e)], [.int (-4), .ref 27], x2)) rfl ?_
          cases g20 : G_X8_no (-4 : Int32) x2 with
          | none => rw [g20] at hF; cases hF
          | some q_ =>
            obtain ⟨r18, x19⟩ := q_
            rw [g20] at hF
            dsimp only at hF
            refine am_Rr.call (pc := 28) (ls := [some (.ref 27), some (.int a), some (.int b), some (.int e)]) (st := []) rfl (A_X8_no d g20) ?_
            rintro _ _ ⟨rfl, rfl⟩
            show am_Rr _ _ (28, [some (.ref 27), some (.int a), some (.int b), some (.int e)], [.int r18], x19) _
            obtain rfl := Option.some.inj hF
            exact am_Rr.ret (v := some (.int r18)) (x := x19) rfl (by trivial) ⟨rfl, rfl⟩
    · rw [if_neg h4] at hF
      refine am_Rr.go 2 (σ' := (10, [some (.ref 27), some (.int a), some (.int b), some (.int e)], [.int (-1), .ref 27], x2)) rfl ?_
      cases g23 : G_X8_no (-1 : Int32) x2 with
      | none => rw [g23] at hF; cases hF
      | some q_ =>
        obtain ⟨r21, x22⟩ := q_
        rw [g23] at hF
        dsimp only at hF
        refine am_Rr.call (pc := 13) (ls := [some (.ref 27), some (.int a), some (.int b), some (.int e)]) (st := []) rfl (A_X8_no d g23) ?_
        rintro _ _ ⟨rfl, rfl⟩
        show am_Rr _ _ (13, [some (.ref 27), some (.int a), some (.int b), some (.int e)], [.int r21], x22) _
        obtain rfl := Option.some.inj hF
        exact am_Rr.ret (v := some (.int r21)) (x := x22) rfl (by trivial) ⟨rfl, rfl⟩
