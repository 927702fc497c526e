noncomputable def L_X8_looksOfRow_10 : Nat → Int32 → Int32 → am_X → Option (Int32 × Int32 × am_X)
  | 0, _, _, _ => none
  | n + 1, v2, v3, x => (if (x.1 885) ≤ v3 then some (v2, v3, x) else (if 0 ≤ v3.toInt ∧ v3.toInt < 12 then (if (36 : Int32) ≤ ((x.2.2.1 42) v3.toNatClampNeg) then (if v2 = (-9) then (match G_X8_passes (-9 : Int32) x with | none => none | some (_, x9) => L_X8_looksOfRow_10 n v3 (v3 + 1) x9) else (match G_X8_passes (-9 : Int32) x with | none => none | some (_, x12) => L_X8_looksOfRow_10 n v2 (v3 + 1) x12)) else (if 0 ≤ ((x.2.2.1 42) v3.toNatClampNeg).toInt ∧ ((x.2.2.1 42) v3.toNatClampNeg).toInt < 36 then (if ((x.2.2.1 39) ((x.2.2.1 42) v3.toNatClampNeg).toNatClampNeg) = 0 then (if v2 = (-9) then (match G_X8_passes (-9 : Int32) x with | none => none | some (_, x18) => L_X8_looksOfRow_10 n v3 (v3 + 1) x18) else (match G_X8_passes (-9 : Int32) x with | none => none | some (_, x21) => L_X8_looksOfRow_10 n v2 (v3 + 1) x21)) else (if v2 = (-9) then (match G_X8_passes ((x.2.2.1 42) v3.toNatClampNeg) x with | none => none | some (_, x25) => L_X8_looksOfRow_10 n v2 (v3 + 1) x25) else (match G_X8_passes ((x.2.2.1 42) v3.toNatClampNeg) x with | none => none | some (_, x28) => L_X8_looksOfRow_10 n v2 (v3 + 1) x28))) else none)) else none))
theorem L_X8_looksOfRow_10_ok (d : Nat) (post : Option Value → am_X → Prop) (w2 : Int32) (w3 : Int32) (y : am_X) : ∀ (n : Nat) (v2 : Int32) (v3 : Int32) (x : am_X), L_X8_looksOfRow_10 n v2 v3 x = some (w2, w3, y) → am_Rr (d + 6) kX8_looksOfRow (93, [some (.ref 27), none, some (.int w2), some (.int w3), none], [], y) post → am_Rr (d + 6) kX8_looksOfRow (10, [some (.ref 27), none, some (.int v2), some (.int v3), none], [], x) post := by
  intro n
  induction n with
  | zero =>
    intro v2 v3 x hF
    cases hF
  | succ n ih =>
    intro v2 v3 x hF hk
    rw [L_X8_looksOfRow_10] at hF
    refine am_Rr.go 4 (σ' := (if (x.1 885) ≤ v3 then 93 else 18, [some (.ref 27), none, some (.int v2), some (.int v3), none], [], x)) rfl ?_
    refine am_Rr.ite (fun h4 => ?_) (fun h4 => ?_)
    · rw [if_pos h4] at hF
      cases hF
      exact hk
    · rw [if_neg h4] at hF
      refine am_Rr.go 3 (σ' := (23, [some (.ref 27), none, some (.int v2), some (.int v3), none], [.int v3, .ref 42], x)) rfl ?_
      by_cases c5 : 0 ≤ v3.toInt ∧ v3.toInt < 12
      · rw [if_pos c5] at hF
        refine am_Rr.chk (σ' := (24, [some (.ref 27), none, some (.int v2), some (.int v3), none], [.int ((x.2.2.1 42) v3.toNatClampNeg)], x)) rfl (by exact vp_in_iff.mpr c5) ?_
        refine am_Rr.go 2 (σ' := (if (36 : Int32) ≤ ((x.2.2.1 42) v3.toNatClampNeg) then 47 else 29, [some (.ref 27), none, some (.int v2), some (.int v3), none], [], x)) rfl ?_
        refine am_Rr.ite (fun h6 => ?_) (fun h6 => ?_)
        · rw [if_pos h6] at hF
          refine am_Rr.go 5 (σ' := (if v2 = (-9) then 56 else 65, [some (.ref 27), none, some (.int v2), some (.int v3), some (.int 0)], [], x)) rfl ?_
          refine am_Rr.ite (fun h7 => ?_) (fun h7 => ?_)
          · rw [if_pos h7] at hF
            refine am_Rr.go 9 (σ' := (84, [some (.ref 27), none, some (.int v3), some (.int v3), some (.int 0)], [.int (-9), .ref 27], x)) rfl ?_
            cases g10 : G_X8_passes (-9 : Int32) x with
            | none => rw [g10] at hF; cases hF
            | some q_ =>
              obtain ⟨u_, x9⟩ := q_
              rw [g10] at hF
              dsimp only at hF
              refine am_Rr.call (pc := 87) (ls := [some (.ref 27), none, some (.int v3), some (.int v3), some (.int 0)]) (st := []) rfl (A_X8_passes (d + 2) g10) ?_
              rintro _ _ ⟨rfl, rfl⟩
              show am_Rr _ _ (87, [some (.ref 27), none, some (.int v3), some (.int v3), some (.int 0)], [], x9) _
              refine am_Rr.go 2 (σ' := (10, [some (.ref 27), none, some (.int v3), some (.int (v3 + 1)), some (.int 0)], [], x9)) rfl ?_
              refine am_Rr.weak (ls0 := [some (.ref 27), none, some (.int v3), some (.int (v3 + 1)), none]) (by simp [am_le]) ?_
              exact ih _ _ _ hF hk
          · rw [if_neg h7] at hF
            refine am_Rr.go 6 (σ' := (84, [some (.ref 27), none, some (.int v2), some (.int v3), some (.int 0)], [.int (-9), .ref 27], x)) rfl ?_
            cases g13 : G_X8_passes (-9 : Int32) x with
            | none => rw [g13] at hF; cases hF
            | some q_ =>
              obtain ⟨u_, x12⟩ := q_
              rw [g13] at hF
              dsimp only at hF
              refine am_Rr.call (pc := 87) (ls := [some (.ref 27), none, some (.int v2), some (.int v3), some (.int 0)]) (st := []) rfl (A_X8_passes (d + 2) g13) ?_
              rintro _ _ ⟨rfl, rfl⟩
              show am_Rr _ _ (87, [some (.ref 27), none, some (.int v2), some (.int v3), some (.int 0)], [], x12) _
              refine am_Rr.go 2 (σ' := (10, [some (.ref 27), none, some (.int v2), some (.int (v3 + 1)), some (.int 0)], [], x12)) rfl ?_
              refine am_Rr.weak (ls0 := [some (.ref 27), none, some (.int v2), some (.int (v3 + 1)), none]) (by simp [am_le]) ?_
              exact ih _ _ _ hF hk
        · rw [if_neg h6] at hF
          refine am_Rr.go 5 (σ' := (38, [some (.ref 27), none, some (.int v2), some (.int v3), none], [.int v3, .ref 42, .ref 39], x)) rfl ?_
          refine am_Rr.chk (σ' := (39, [some (.ref 27), none, some (.int v2), some (.int v3), none], [.int ((x.2.2.1 42) v3.toNatClampNeg), .ref 39], x)) rfl (by exact vp_in_iff.mpr c5) ?_
          by_cases c14 : 0 ≤ ((x.2.2.1 42) v3.toNatClampNeg).toInt ∧ ((x.2.2.1 42) v3.toNatClampNeg).toInt < 36
          · rw [if_pos c14] at hF
            refine am_Rr.chk (σ' := (40, [some (.ref 27), none, some (.int v2), some (.int v3), none], [.int ((x.2.2.1 39) ((x.2.2.1 42) v3.toNatClampNeg).toNatClampNeg)], x)) rfl (by exact vp_in_iff.mpr c14) ?_
            refine am_Rr.go 1 (σ' := (if ((x.2.2.1 39) ((x.2.2.1 42) v3.toNatClampNeg).toNatClampNeg) = 0 then 47 else 43, [some (.ref 27), none, some (.int v2), some (.int v3), none], [], x)) rfl ?_
            refine am_Rr.ite (fun h15 => ?_) (fun h15 => ?_)
            · rw [if_pos h15] at hF
              refine am_Rr.go 5 (σ' := (if v2 = (-9) then 56 else 65, [some (.ref 27), none, some (.int v2), some (.int v3), some (.int 0)], [], x)) rfl ?_
              refine am_Rr.ite (fun h16 => ?_) (fun h16 => ?_)
              · rw [if_pos h16] at hF
                refine am_Rr.go 9 (σ' := (84, [some (.ref 27), none, some (.int v3), some (.int v3), some (.int 0)], [.int (-9), .ref 27], x)) rfl ?_
                cases g19 : G_X8_passes (-9 : Int32) x with
                | none => rw [g19] at hF; cases hF
                | some q_ =>
                  obtain ⟨u_, x18⟩ := q_
                  rw [g19] at hF
                  dsimp only at hF
                  refine am_Rr.call (pc := 87) (ls := [some (.ref 27), none, some (.int v3), some (.int v3), some (.int 0)]) (st := []) rfl (A_X8_passes (d + 2) g19) ?_
                  rintro _ _ ⟨rfl, rfl⟩
                  show am_Rr _ _ (87, [some (.ref 27), none, some (.int v3), some (.int v3), some (.int 0)], [], x18) _
                  refine am_Rr.go 2 (σ' := (10, [some (.ref 27), none, some (.int v3), some (.int (v3 + 1)), some (.int 0)], [], x18)) rfl ?_
                  refine am_Rr.weak (ls0 := [some (.ref 27), none, some (.int v3), some (.int (v3 + 1)), none]) (by simp [am_le]) ?_
                  exact ih _ _ _ hF hk
              · rw [if_neg h16] at hF
                refine am_Rr.go 6 (σ' := (84, [some (.ref 27), none, some (.int v2), some (.int v3), some (.int 0)], [.int (-9), .ref 27], x)) rfl ?_
                cases g22 : G_X8_passes (-9 : Int32) x with
                | none => rw [g22] at hF; cases hF
                | some q_ =>
                  obtain ⟨u_, x21⟩ := q_
                  rw [g22] at hF
                  dsimp only at hF
                  refine am_Rr.call (pc := 87) (ls := [some (.ref 27), none, some (.int v2), some (.int v3), some (.int 0)]) (st := []) rfl (A_X8_passes (d + 2) g22) ?_
                  rintro _ _ ⟨rfl, rfl⟩
                  show am_Rr _ _ (87, [some (.ref 27), none, some (.int v2), some (.int v3), some (.int 0)], [], x21) _
                  refine am_Rr.go 2 (σ' := (10, [some (.ref 27), none, some (.int v2), some (.int (v3 + 1)), some (.int 0)], [], x21)) rfl ?_
                  refine am_Rr.weak (ls0 := [some (.ref 27), none, some (.int v2), some (.int (v3 + 1)), none]) (by simp [am_le]) ?_
                  exact ih _ _ _ hF hk
            · rw [if_neg h15] at hF
              refine am_Rr.go 6 (σ' := (if v2 = (-9) then 56 else 65, [some (.ref 27), none, some (.int v2), some (.int v3), some (.int 1)], [], x)) rfl ?_
              refine am_Rr.ite (fun h23 => ?_) (fun h23 => ?_)
              · rw [if_pos h23] at hF
                refine am_Rr.go 10 (σ' := (78, [some (.ref 27), none, some (.int v2), some (.int v3), some (.int 1)], [.int v3, .ref 42, .ref 27], x)) rfl ?_
                refine am_Rr.chk (σ' := (79, [some (.ref 27), none, some (.int v2), some (.int v3), some (.int 1)], [.int ((x.2.2.1 42) v3.toNatClampNeg), .ref 27], x)) rfl (by exact vp_in_iff.mpr c5) ?_
                refine am_Rr.go 1 (σ' := (84, [some (.ref 27), none, some (.int v2), some (.int v3), some (.int 1)], [.int ((x.2.2.1 42) v3.toNatClampNeg), .ref 27], x)) rfl ?_
                cases g26 : G_X8_passes ((x.2.2.1 42) v3.toNatClampNeg) x with
                | none => rw [g26] at hF; cases hF
                | some q_ =>
                  obtain ⟨u_, x25⟩ := q_
                  rw [g26] at hF
                  dsimp only at hF
                  refine am_Rr.call (pc := 87) (ls := [some (.ref 27), none, some (.int v2), some (.int v3), some (.int 1)]) (st := []) rfl (A_X8_passes (d + 2) g26) ?_
                  rintro _ _ ⟨rfl, rfl⟩
                  show am_Rr _ _ (87, [some (.ref 27), none, some (.int v2), some (.int v3), some (.int 1)], [], x25) _
                  refine am_Rr.go 2 (σ' := (10, [some (.ref 27), none, some (.int v2), some (.int (v3 + 1)), some (.int 1)], [], x25)) rfl ?_
                  refine am_Rr.weak (ls0 := [some (.ref 27), none, some (.int v2), some (.int (v3 + 1)), none]) (by simp [am_le]) ?_
                  exact ih _ _ _ hF hk
              · rw [if_neg h23] at hF
                refine am_Rr.go 8 (σ' := (78, [some (.ref 27), none, some (.int v2), some (.int v3), some (.int 1)], [.int v3, .ref 42, .ref 27], x)) rfl ?_
                refine am_Rr.chk (σ' := (79, [some (.ref 27), none, some (.int v2), some (.int v3), some (.int 1)], [.int ((x.2.2.1 42) v3.toNatClampNeg), .ref 27], x)) rfl (by exact vp_in_iff.mpr c5) ?_
                refine am_Rr.go 1 (σ' := (84, [some (.ref 27), none, some (.int v2), some (.int v3), some (.int 1)], [.int ((x.2.2.1 42) v3.toNatClampNeg), .ref 27], x)) rfl ?_
                cases g29 : G_X8_passes ((x.2.2.1 42) v3.toNatClampNeg) x with
                | none => rw [g29] at hF; cases hF
                | some q_ =>
                  obtain ⟨u_, x28⟩ := q_
                  rw [g29] at hF
                  dsimp only at hF
                  refine am_Rr.call (pc := 87) (ls := [some (.ref 27), none, some (.int v2), some (.int v3), some (.int 1)]) (st := []) rfl (A_X8_passes (d + 2) g29) ?_
                  rintro _ _ ⟨rfl, rfl⟩
                  show am_Rr _ _ (87, [some (.ref 27), none, some (.int v2), some (.int v3), some (.int 1)], [], x28) _
                  refine am_Rr.go 2 (σ' := (10, [some (.ref 27), none, some (.int v2), some (.int (v3 + 1)), some (.int 1)], [], x28)) rfl ?_
                  refine am_Rr.weak (ls0 := [some (.ref 27), none, some (.int v2), some (.int (v3 + 1)), none]) (by simp [am_le]) ?_
                  exact ih _ _ _ hF hk
          · rw [if_neg c14] at hF
            cases hF
      · rw [if_neg c5] at hF
        cases hF
noncomputable def G_X8_looksOfRow (a : Int32) (x : am_X) : Option (Int32 × am_X) := (match G_X8_begin a x with | none => none | some (_, x2) => (match L_X8_looksOfRow_10 1000 (-9 : Int32) (0 : Int32) x2 with | none => none | some (v31, v32, x30) => some (v31, x30)))
theorem A_X8_looksOfRow (d : Nat) {a : Int32} {x : am_X} {res : Int32 × am_X} (hF : G_X8_looksOfRow a x = some res) : am_T (d + 7) mX8_looksOfRow [.ref 27, .int a] x (fun ro y => ro = some (.int res.1) ∧ res.2 = y) := by
  refine am_T.of rfl ?_
  show am_Rr (d + 6) kX8_looksOfRow (0, [some (.ref 27), some (.int a), none, none, none], [], x) _
  unfold G_X8_looksOfRow at hF
  refine am_Rr.go 2 (σ' := (2, [some (.ref 27), some (.int a), none, none, none], [.int a, .ref 27], x)) rfl ?_
  cases g3 : G_X8_begin a x with
  | none => rw [g3] at hF; cases hF
  | some q_ =>
    obtain ⟨u_, x2⟩ := q_
    rw [g3] at hF
    dsimp only at hF
    refine am_Rr.call (pc := 5) (ls := [some (.ref 27), some (.int a), none, none, none]) (st := []) rfl (A_X8_begin d g3) ?_
    rintro _ _ ⟨rfl, rfl⟩
    show am_Rr _ _ (5, [some (.ref 27), some (.int a), none, none, none], [], x2) _
    refine am_Rr.go 4 (σ' := (10, [some (.ref 27), some (.int a), some (.int (-9)), some (.int 0), none], [], x2)) rfl ?_
    refine am_Rr.weak (ls0 := [some (.ref 27), none, some (.int (-9)), some (.int 0), none]) (by simp [am_le]) ?_
    cases g33 : L_X8_looksOfRow_10 1000 (-9 : Int32) (0 : Int32) x2 with
    | none => rw [g33] at hF; cases hF
    | some q_ =>
      obtain ⟨v31, v32, x30⟩ := q_
      rw [g33] at hF
      dsimp only at hF
      refine L_X8_looksOfRow_10_ok d _ v31 v32 x30 _ _ _ _ g33 ?_
      refine am_Rr.go 1 (σ' := (94, [some (.ref 27), none, some (.int v31), some (.int v32), none], [.int v31], x30)) rfl ?_
      obtain rfl := Option.some.inj hF
      exact am_Rr.ret (v := some (.int v31)) (x := x30) rfl (by trivial) ⟨rfl, rfl⟩
noncomputable def G_X8_search (a : Int32) (b : Int32) (x : am_X) : Option (Int32 × am_X) := (match G_X8_isNoSeeker a x with | none => none | some (r1, x2) => (if r1 = 0 then (if (0 : Int32) ≤ b then (if b ≤ 999 then (match G_X8_kindOfSeeker a x2 with | none => none | some (r7, x8) => (match G_X8_searchBy r7 a b x8 with | none => none | some (r10, x11) => some (r10, x11))) else (match G_X8_no (-6 : Int32) x2 with | none => none | some (r13, x14) => some (r13, x14))) else (match G_X8_no (-4 : Int32) x2 with | none => none | some (r16, x17) => some (r16, x17))) else (match G_X8_no (-1 : Int32) x2 with | none => none | some (r19, x20) => some (r19, x20))))
theorem A_X8_search (d : Nat) {a : Int32} {b : Int32} {x : am_X} {res : Int32 × am_X} (hF : G_X8_search a b x = some res) : am_T (d + 8) mX8_search [.ref 27, .int a, .int b] x (fun ro y => ro = some (.int res.1) ∧ res.2 = y) := by
  refine am_T.of rfl ?_
  show am_Rr (d + 7) kX8_search (0, [some (.ref 27), some (.int a), some (.int b)], [], x) _
  unfold G_X8_search at hF
  refine am_Rr.go 2 (σ' := (2, [some (.ref 27), some (.int a), some (.int b)], [.int a, .ref 27], x)) rfl ?_
  cases g3 : G_X8_isNoSeeker a x with
  | none => rw [g3] at hF; cases hF
  | some q_ =>
    obtain ⟨r1, x2⟩ := q_
    rw [g3] at hF
    dsimp only at hF
    refine am_Rr.call (pc := 5) (ls := [some (.ref 27), some (.int a), some (.int b)]) (st := []) rfl (A_X8_isNoSeeker (d + 5) g3) ?_
    rintro _ _ ⟨rfl, rfl⟩
    show am_Rr _ _ (5, [some (.ref 27), some (.int a), some (.int b)], [.int r1], x2) _
    refine am_Rr.go 1 (σ' := (if r1 = 0 then 14 else 8, [some (.ref 27), some (.int a), some (.int b)], [], x2)) rfl ?_
    refine am_Rr.ite (fun h4 => ?_) (fun h4 => ?_)
    · rw [if_pos h4] at hF
      refine am_Rr.go 2 (σ' := (if (0 : Int32) ≤ b then 25 else 18, [some (.ref 27), some (.int a), some (.int b)], [], x2)) rfl ?_
      refine am_Rr.ite (fun h5 => ?_) (fun h5 => ?_)
      · rw [if_pos h5] at hF
        refine am_Rr.go 3 (σ' := (if b ≤ 999 then 39 else 32, [some (.ref 27), some (.int a), some (.int b)], [], x2)) rfl ?_
        refine am_Rr.ite (fun h6 => ?_) (fun h6 => ?_)
        · rw [if_pos h6] at hF
          refine am_Rr.go 3 (σ' := (42, [some (.ref 27), some (.int a), some (.int b)], [.int a, .ref 27, .ref 27], x2)) rfl ?_
          cases g9 : G_X8_kindOfSeeker a x2 with
          | none => rw [g9] at hF; cases hF
          | some q_ =>
            obtain ⟨r7, x8⟩ := q_
            rw [g9] at hF
            dsimp only at hF
            refine am_Rr.call (pc := 45) (ls := [some (.ref 27), some (.int a), some (.int b)]) (st := [.ref 27]) rfl (A_X8_kindOfSeeker (d + 5) g9) ?_
            rintro _ _ ⟨rfl, rfl⟩
            show am_Rr _ _ (45, [some (.ref 27), some (.int a), some (.int b)], [.int r7, .ref 27], x8) _
            refine am_Rr.go 2 (σ' := (47, [some (.ref 27), some (.int a), some (.int b)], [.int b, .int a, .int r7, .ref 27], x8)) rfl ?_
            cases g12 : G_X8_searchBy r7 a b x8 with
            | none => rw [g12] at hF; cases hF
            | some q_ =>
              obtain ⟨r10, x11⟩ := q_
              rw [g12] at hF
              dsimp only at hF
              refine am_Rr.call (pc := 50) (ls := [some (.ref 27), some (.int a), some (.int b)]) (st := []) rfl (A_X8_searchBy d g12) ?_
              rintro _ _ ⟨rfl, rfl⟩
              show am_Rr _ _ (50, [some (.ref 27), some (.int a), some (.int b)], [.int r10], x11) _
              obtain rfl := Option.some.inj hF
              exact am_Rr.ret (v := some (.int r10)) (x := x11) rfl (by trivial) ⟨rfl, rfl⟩
        · rw [if_neg h6] at hF
          refine am_Rr.go 2 (σ' := (35, [some (.ref 27), some (.int a), some (.int b)], [.int (-6), .ref 27], x2)) rfl ?_
          cases g15 : G_X8_no (-6 : Int32) x2 with
          | none => rw [g15] at hF; cases hF
          | some q_ =>
            obtain ⟨r13, x14⟩ := q_
            rw [g15] at hF
            dsimp only at hF
            refine am_Rr.call (pc := 38) (ls := [some (.ref 27), some (.int a), some (.int b)]) (st := []) rfl (A_X8_no (d + 5) g15) ?_
            rintro _ _ ⟨rfl, rfl⟩
            show am_Rr _ _ (38, [some (.ref 27), some (.int a), some (.int b)], [.int r13], x14) _
            obtain rfl := Option.some.inj hF
            exact am_Rr.ret (v := some (.int r13)) (x := x14) rfl (by trivial) ⟨rfl, rfl⟩
      · rw [if_neg h5] at hF
        refine am_Rr.go 2 (σ' := (21, [some (.ref 27), some (.int a), some (.int b)], [.int (-4), .ref 27], x2)) rfl ?_
        cases g18 : G_X8_no (-4 : Int32) x2 with
        | none => rw [g18] at hF; cases hF
        | some q_ =>
          obtain ⟨r16, x17⟩ := q_
          rw [g18] at hF
          dsimp only at hF
          refine am_Rr.call (pc := 24) (ls := [some (.ref 27), some (.int a), some (.int b)]) (st := []) rfl (A_X8_no (d + 5) g18) ?_
          rintro _ _ ⟨rfl, rfl⟩
          show am_Rr _ _ (24, [some (.ref 27), some (.int a), some (.int b)], [.int r16], x17) _
          obtain rfl := Option.some.inj hF
          exact am_Rr.ret (v := some (.int r16)) (x := x17) rfl (by trivial) ⟨rfl, rfl⟩
    · rw [if_neg h4] at hF
      refine am_Rr.go 2 (σ' := (10, [some (.ref 27), some (.int a), some (.int b)], [.int (-1), .ref 27], x2)) rfl ?_
      cases g21 : G_X8_no (-1 : Int32) x2 with
      | none => rw [g21] at hF; cases hF
      | some q_ =>
        obtain ⟨r19, x20⟩ := q_
        rw [g21] at hF
        dsimp only at hF
        refine am_Rr.call (pc := 13) (ls := [some (.ref 27), some (.int a), some (.int b)]) (st := []) rfl (A_X8_no (d + 5) g21) ?_
        rintro _ _ ⟨rfl, rfl⟩
        show am_Rr _ _ (13, [some (.ref 27), some (.int a), some (.int b)], [.int r19], x20) _
        obtain rfl := Option.some.inj hF
        exact am_Rr.ret (v := some (.int r19)) (x := x20) rfl (by trivial) ⟨rfl, rfl⟩
noncomputable def G_X8_left (a : Int32) (b : Int32) (e : Int32) (x : am_X) : Option (Int32 × am_X) := (match G_X8_refusal a b e x with | none => none | some (r1, x2) => (if (0 : Int32) ≤ r1 then (match G_X8_lookOn a b e x2 with | none => none | some (_, x6) => (match G_X8_inSet  x6 with | none => none | some (r8, x9) => some (r8, x9))) else some (r1, x2)))
theorem A_X8_left (d : Nat) {a : Int32} {b : Int32} {e : Int32} {x : am_X} {res : Int32 × am_X} (hF : G_X8_left a b e x = some res) : am_T (d + 8) mX8_left [.ref 27, .int a, .int b, .int e] x (fun ro y => ro = some (.int res.1) ∧ res.2 = y) := by
  refine am_T.of rfl ?_
  show am_Rr (d + 7) kX8_left (0, [some (.ref 27), some (.int a), some (.int b), some (.int e), none], [], x) _
  unfold G_X8_left at hF
  refine am_Rr.go 4 (σ' := (4, [some (.ref 27), some (.int a), some (.int b), some (.int e), none], [.int e, .int b, .int a, .ref 27], x)) rfl ?_
  cases g3 : G_X8_refusal a b e x with
  | none => rw [g3] at hF; cases hF
  | some q_ =>
    obtain ⟨r1, x2⟩ := q_
    rw [g3] at hF
    dsimp only at hF
    refine am_Rr.call (pc := 7) (ls := [some (.ref 27), some (.int a), some (.int b), some (.int e), none]) (st := []) rfl (A_X8_refusal (d + 4) g3) ?_
    rintro _ _ ⟨rfl, rfl⟩
    show am_Rr _ _ (7, [some (.ref 27), some (.int a), some (.int b), some (.int e), none], [.int r1], x2) _
    refine am_Rr.go 3 (σ' := (if (0 : Int32) ≤ r1 then 17 else 14, [some (.ref 27), some (.int a), some (.int b), some (.int e), some (.int r1)], [], x2)) rfl ?_
    refine am_Rr.ite (fun h4 => ?_) (fun h4 => ?_)
    · rw [if_pos h4] at hF
      refine am_Rr.go 4 (σ' := (21, [some (.ref 27), some (.int a), some (.int b), some (.int e), some (.int r1)], [.int e, .int b, .int a, .ref 27], x2)) rfl ?_
      cases g7 : G_X8_lookOn a b e x2 with
      | none => rw [g7] at hF; cases hF
      | some q_ =>
        obtain ⟨u_, x6⟩ := q_
        rw [g7] at hF
        dsimp only at hF
        refine am_Rr.call (pc := 24) (ls := [some (.ref 27), some (.int a), some (.int b), some (.int e), some (.int r1)]) (st := []) rfl (A_X8_lookOn d g7) ?_
        rintro _ _ ⟨rfl, rfl⟩
        show am_Rr _ _ (24, [some (.ref 27), some (.int a), some (.int b), some (.int e), some (.int r1)], [], x6) _
        refine am_Rr.go 1 (σ' := (25, [some (.ref 27), some (.int a), some (.int b), some (.int e), some (.int r1)], [.ref 27], x6)) rfl ?_
        cases g10 : G_X8_inSet  x6 with
        | none => rw [g10] at hF; cases hF
        | some q_ =>
          obtain ⟨r8, x9⟩ := q_
          rw [g10] at hF
          dsimp only at hF
          refine am_Rr.call (pc := 28) (ls := [some (.ref 27), some (.int a), some (.int b), some (.int e), some (.int r1)]) (st := []) rfl (A_X8_inSet (d + 5) g10) ?_
          rintro _ _ ⟨rfl, rfl⟩
          show am_Rr _ _ (28, [some (.ref 27), some (.int a), some (.int b), some (.int e), some (.int r1)], [.int r8], x9) _
          obtain rfl := Option.some.inj hF
          exact am_Rr.ret (v := some (.int r8)) (x := x9) rfl (by trivial) ⟨rfl, rfl⟩
    · rw [if_neg h4] at hF
      refine am_Rr.go 1 (σ' := (16, [some (.ref 27), some (.int a), some (.int b), some (.int e), some (.int r1)], [.int r1], x2)) rfl ?_
      obtain rfl := Option.some.inj hF
      exact am_Rr.ret (v := some (.int r1)) (x := x2) rfl (by trivial) ⟨rfl, rfl⟩
noncomputable def G_X8_looksAt (a : Int32) (b : Int32) (e : Int32) (x : am_X) : Option (Int32 × am_X) := (match G_X8_refusal a b e x with | none => none | some (r1, x2) => (if (0 : Int32) ≤ r1 then (match G_X8_lookOn a b e x2 with | none => none | some (_, x6) => (match G_X8_kindOfSeeker a x6 with | none => none | some (r8, x9) => (match G_X8_looks r8 a x9 with | none => none | some (r11, x12) => some (r11, x12)))) else some (r1, x2)))
theorem A_X8_looksAt (d : Nat) {a : Int32} {b : Int32} {e : Int32} {x : am_X} {res : Int32 × am_X} (hF : G_X8_looksAt a b e x = some res) : am_T (d + 8) mX8_looksAt [.ref 27, .int a, .int b, .int e] x (fun ro y => ro = some (.int res.1) ∧ res.2 = y) := by
  refine am_T.of rfl ?_
  show am_Rr (d + 7) kX8_looksAt (0, [some (.ref 27), some (.int a), some (.int b), some (.int e), none], [], x) _
  unfold G_X8_looksAt at hF
  refine am_Rr.go 4 (σ' := (4, [some (.ref 27), some (.int a), some (.int b), some (.int e), none], [.int e, .int b, .int a, .ref 27], x)) rfl ?_
  cases g3 : G_X8_refusal a b e x with
  | none => rw [g3] at hF; cases hF
  | some q_ =>
    obtain ⟨r1, x2⟩ := q_
    rw [g3] at hF
    dsimp only at hF
    refine am_Rr.call (pc := 7) (ls := [some (.ref 27), some (.int a), some (.int b), some (.int e), none]) (st := []) rfl (A_X8_refusal (d + 4) g3) ?_
    rintro _ _ ⟨rfl, rfl⟩
    show am_Rr _ _ (7, [some (.ref 27), some (.int a), some (.int b), some (.int e), none], [.int r1], x2) _
    refine am_Rr.go 3 (σ' := (if (0 : Int32) ≤ r1 then 17 else 14, [some (.ref 27), some (.int a), some (.int b), some (.int e), some (.int r1)], [], x2)) rfl ?_
    refine am_Rr.ite (fun h4 => ?_) (fun h4 => ?_)
    · rw [if_pos h4] at hF
      refine am_Rr.go 4 (σ' := (21, [some (.ref 27), some (.int a), some (.int b), some (.int e), some (.int r1)], [.int e, .int b, .int a, .ref 27], x2)) rfl ?_
      cases g7 : G_X8_lookOn a b e x2 with
      | none => rw [g7] at hF; cases hF
      | some q_ =>
        obtain ⟨u_, x6⟩ := q_
        rw [g7] at hF
        dsimp only at hF
        refine am_Rr.call (pc := 24) (ls := [some (.ref 27), some (.int a), some (.int b), some (.int e), some (.int r1)]) (st := []) rfl (A_X8_lookOn d g7) ?_
        rintro _ _ ⟨rfl, rfl⟩
        show am_Rr _ _ (24, [some (.ref 27), some (.int a), some (.int b), some (.int e), some (.int r1)], [], x6) _
        refine am_Rr.go 3 (σ' := (27, [some (.ref 27), some (.int a), some (.int b), some (.int e), some (.int r1)], [.int a, .ref 27, .ref 27], x6)) rfl ?_
        cases g10 : G_X8_kindOfSeeker a x6 with
        | none => rw [g10] at hF; cases hF
        | some q_ =>
          obtain ⟨r8, x9⟩ := q_
          rw [g10] at hF
          dsimp only at hF
          refine am_Rr.call (pc := 30) (ls := [some (.ref 27), some (.int a), some (.int b), some (.int e), some (.int r1)]) (st := [.ref 27]) rfl (A_X8_kindOfSeeker (d + 5) g10) ?_
          rintro _ _ ⟨rfl, rfl⟩
          show am_Rr _ _ (30, [some (.ref 27), some (.int a), some (.int b), some (.int e), some (.int r1)], [.int r8, .ref 27], x9) _
          refine am_Rr.go 1 (σ' := (31, [some (.ref 27), some (.int a), some (.int b), some (.int e), some (.int r1)], [.int a, .int r8, .ref 27], x9)) rfl ?_
          cases g13 : G_X8_looks r8 a x9 with
          | none => rw [g13] at hF; cases hF
          | some q_ =>
            obtain ⟨r11, x12⟩ := q_
            rw [g13] at hF
            dsimp only at hF
            refine am_Rr.call (pc := 34) (ls := [some (.ref 27), some (.int a), some (.int b), some (.int e), some (.int r1)]) (st := []) rfl (A_X8_looks (d + 2) g13) ?_
            rintro _ _ ⟨rfl, rfl⟩
            show am_Rr _ _ (34, [some (.ref 27), some (.int a), some (.int b), some (.int e), some (.int r1)], [.int r11], x12) _
            obtain rfl := Option.some.inj hF
            exact am_Rr.ret (v := some (.int r11)) (x := x12) rfl (by trivial) ⟨rfl, rfl⟩
    · rw [if_neg h4] at hF
      refine am_Rr.go 1 (σ' := (16, [some (.ref 27), some (.int a), some (.int b), some (.int e), some (.int r1)], [.int r1], x2)) rfl ?_
      obtain rfl := Option.some.inj hF
      exact am_Rr.ret (v := some (.int r1)) (x := x2) rfl (by trivial) ⟨rfl, rfl⟩
noncomputable def L_X8_bestSeeker_26 : Nat → Int32 → Int32 → Int32 → Int32 → Int32 → am_X → Option (Int32 × Int32 × Int32 × Int32 × Int32 × am_X)
  | 0, _, _, _, _, _, _ => none
  | n + 1, v1, v2, v4, v5, v6, x => (if (5 : Int32) ≤ v6 then some (v1, v2, v4, v5, v6, x) else (match G_X8_searchBy v6 v1 v2 x with | none => none | some (r6, x7) => (if r6 = (-9) then L_X8_bestSeeker_26 n v1 v2 v4 v5 (v6 + 1) x7 else (if v5 ≤ r6 then L_X8_bestSeeker_26 n v1 v2 v4 v5 (v6 + 1) x7 else L_X8_bestSeeker_26 n v1 v2 v6 r6 (v6 + 1) x7))))
theorem L_X8_bestSeeker_26_ok (d : Nat) (post : Option Value → am_X → Prop) (w1 : Int32) (w2 : Int32) (w4 : Int32) (w5 : Int32) (w6 : Int32) (y : am_X) : ∀ (n : Nat) (v1 : Int32) (v2 : Int32) (v4 : Int32) (v5 : Int32) (v6 : Int32) (x : am_X), L_X8_bestSeeker_26 n v1 v2 v4 v5 v6 x = some (w1, w2, w4, w5, w6, y) → am_Rr (d + 7) kX8_bestSeeker (70, [some (.ref 27), some (.int w1), some (.int w2), none, some (.int w4), some (.int w5), some (.int w6), none], [], y) post → am_Rr (d + 7) kX8_bestSeeker (26, [some (.ref 27), some (.int v1), some (.int v2), none, some (.int v4), some (.int v5), some (.int v6), none], [], x) post := by
  intro n
  induction n with
  | zero =>
    intro v1 v2 v4 v5 v6 x hF
    cases hF
  | succ n ih =>
    intro v1 v2 v4 v5 v6 x hF hk
    rw [L_X8_bestSeeker_26] at hF
    refine am_Rr.go 3 (σ' := (if (5 : Int32) ≤ v6 then 70 else 32, [some (.ref 27), some (.int v1), some (.int v2), none, some (.int v4), some (.int v5), some (.int v6), none], [], x)) rfl ?_
    refine am_Rr.ite (fun h5 => ?_) (fun h5 => ?_)
    · rw [if_pos h5] at hF
      cases hF
      exact hk
    · rw [if_neg h5] at hF
      refine am_Rr.go 4 (σ' := (37, [some (.ref 27), some (.int v1), some (.int v2), none, some (.int v4), some (.int v5), some (.int v6), none], [.int v2, .int v1, .int v6, .ref 27], x)) rfl ?_
      cases g8 : G_X8_searchBy v6 v1 v2 x with
      | none => rw [g8] at hF; cases hF
      | some q_ =>
        obtain ⟨r6, x7⟩ := q_
        rw [g8] at hF
        dsimp only at hF
        refine am_Rr.call (pc := 40) (ls := [some (.ref 27), some (.int v1), some (.int v2), none, some (.int v4), some (.int v5), some (.int v6), none]) (st := []) rfl (A_X8_searchBy d g8) ?_
        rintro _ _ ⟨rfl, rfl⟩
        show am_Rr _ _ (40, [some (.ref 27), some (.int v1), some (.int v2), none, some (.int v4), some (.int v5), some (.int v6), none], [.int r6], x7) _
        refine am_Rr.go 4 (σ' := (if r6 = (-9) then 64 else 49, [some (.ref 27), some (.int v1), some (.int v2), none, some (.int v4), some (.int v5), some (.int v6), some (.int r6)], [], x7)) rfl ?_
        refine am_Rr.ite (fun h9 => ?_) (fun h9 => ?_)
        · rw [if_pos h9] at hF
          refine am_Rr.go 2 (σ' := (26, [some (.ref 27), some (.int v1), some (.int v2), none, some (.int v4), some (.int v5), some (.int (v6 + 1)), some (.int r6)], [], x7)) rfl ?_
          refine am_Rr.weak (ls0 := [some (.ref 27), some (.int v1), some (.int v2), none, some (.int v4), some (.int v5), some (.int (v6 + 1)), none]) (by simp [am_le]) ?_
          exact ih _ _ _ _ _ _ hF hk
        · rw [if_neg h9] at hF
          refine am_Rr.go 3 (σ' := (if v5 ≤ r6 then 64 else 56, [some (.ref 27), some (.int v1), some (.int v2), none, some (.int v4), some (.int v5), some (.int v6), some (.int r6)], [], x7)) rfl ?_
          refine am_Rr.ite (fun h10 => ?_) (fun h10 => ?_)
          · rw [if_pos h10] at hF
            refine am_Rr.go 2 (σ' := (26, [some (.ref 27), some (.int v1), some (.int v2), none, some (.int v4), some (.int v5), some (.int (v6 + 1)), some (.int r6)], [], x7)) rfl ?_
            refine am_Rr.weak (ls0 := [some (.ref 27), some (.int v1), some (.int v2), none, some (.int v4), some (.int v5), some (.int (v6 + 1)), none]) (by simp [am_le]) ?_
            exact ih _ _ _ _ _ _ hF hk
          · rw [if_neg h10] at hF
            refine am_Rr.go 6 (σ' := (26, [some (.ref 27), some (.int v1), some (.int v2), none, some (.int v6), some (.int r6), some (.int (v6 + 1)), some (.int r6)], [], x7)) rfl ?_
            refine am_Rr.weak (ls0 := [some (.ref 27), some (.int v1), some (.int v2), none, some (.int v6), some (.int r6), some (.int (v6 + 1)), none]) (by simp [am_le]) ?_
            exact ih _ _ _ _ _ _ hF hk
noncomputable def G_X8_bestSeeker (a : Int32) (b : Int32) (x : am_X) : Option (Int32 × am_X) := (match G_X8_refusal a b (0 : Int32) x with | none => none | some (r1, x2) => (if (0 : Int32) ≤ r1 then (match L_X8_bestSeeker_26 1000 a b (-9 : Int32) (201 : Int32) (0 : Int32) x2 with | none => none | some (v12, v13, v14, v15, v16, x11) => some (v14, x11)) else some (r1, x2)))
theorem A_X8_bestSeeker (d : Nat) {a : Int32} {b : Int32} {x : am_X} {res : Int32 × am_X} (hF : G_X8_bestSeeker a b x = some res) : am_T (d + 8) mX8_bestSeeker [.ref 27, .int a, .int b] x (fun ro y => ro = some (.int res.1) ∧ res.2 = y) := by
  refine am_T.of rfl ?_
  show am_Rr (d + 7) kX8_bestSeeker (0, [some (.ref 27), some (.int a), some (.int b), none, none, none, none, none], [], x) _
  unfold G_X8_bestSeeker at hF
  refine am_Rr.go 4 (σ' := (4, [some (.ref 27), some (.int a), some (.int b), none, none, none, none, none], [.int 0, .int b, .int a, .ref 27], x)) rfl ?_
  cases g3 : G_X8_refusal a b (0 : Int32) x with
  | none => rw [g3] at hF; cases hF
  | some q_ =>
    obtain ⟨r1, x2⟩ := q_
    rw [g3] at hF
    dsimp only at hF
    refine am_Rr.call (pc := 7) (ls := [some (.ref 27), some (.int a), some (.int b), none, none, none, none, none]) (st := []) rfl (A_X8_refusal (d + 4) g3) ?_
    rintro _ _ ⟨rfl, rfl⟩
    show am_Rr _ _ (7, [some (.ref 27), some (.int a), some (.int b), none, none, none, none, none], [.int r1], x2) _
    refine am_Rr.go 3 (σ' := (if (0 : Int32) ≤ r1 then 14 else 12, [some (.ref 27), some (.int a), some (.int b), some (.int r1), none, none, none, none], [], x2)) rfl ?_
    refine am_Rr.ite (fun h4 => ?_) (fun h4 => ?_)
    · rw [if_pos h4] at hF
      refine am_Rr.go 6 (σ' := (26, [some (.ref 27), some (.int a), some (.int b), some (.int r1), some (.int (-9)), some (.int 201), some (.int 0), none], [], x2)) rfl ?_
      refine am_Rr.weak (ls0 := [some (.ref 27), some (.int a), some (.int b), none, some (.int (-9)), some (.int 201), some (.int 0), none]) (by simp [am_le]) ?_
      cases g17 : L_X8_bestSeeker_26 1000 a b (-9 : Int32) (201 : Int32) (0 : Int32) x2 with
      | none => rw [g17] at hF; cases hF
      | some q_ =>
        obtain ⟨v12, v13, v14, v15, v16, x11⟩ := q_
        rw [g17] at hF
        dsimp only at hF
        refine L_X8_bestSeeker_26_ok d _ v12 v13 v14 v15 v16 x11 _ _ _ _ _ _ _ g17 ?_
        refine am_Rr.go 1 (σ' := (72, [some (.ref 27), some (.int v12), some (.int v13), none, some (.int v14), some (.int v15), some (.int v16), none], [.int v14], x11)) rfl ?_
        obtain rfl := Option.some.inj hF
        exact am_Rr.ret (v := some (.int v14)) (x := x11) rfl (by trivial) ⟨rfl, rfl⟩
    · rw [if_neg h4] at hF
      refine am_Rr.go 1 (σ' := (13, [some (.ref 27), some (.int a), some (.int b), some (.int r1), none, none, none, none], [.int r1], x2)) rfl ?_
      obtain rfl := Option.some.inj hF
      exact am_Rr.ret (v := some (.int r1)) (x := x2) rfl (by trivial) ⟨rfl, rfl⟩
