noncomputable def L_X8_lookOn_8 : Nat → Int32 → Int32 → Int32 → am_X → Option (Int32 × Int32 × Int32 × am_X)
  | 0, _, _, _, _ => none
  | n + 1, v1, v3, v4, x => (if v3 ≤ v4 then some (v1, v3, v4, x) else (match G_X8_kindOfSeeker v1 x with | none => none | some (r5, x6) => (match G_X8_looks r5 v1 x6 with | none => none | some (r8, x9) => (match G_X8_passes r8 x9 with | none => none | some (_, x12) => L_X8_lookOn_8 n v1 v3 (v4 + 1) x12))))
theorem L_X8_lookOn_8_ok (d : Nat) (post : Option Value → am_X → Prop) (w1 : Int32) (w3 : Int32) (w4 : Int32) (y : am_X) : ∀ (n : Nat) (v1 : Int32) (v3 : Int32) (v4 : Int32) (x : am_X), L_X8_lookOn_8 n v1 v3 v4 x = some (w1, w3, w4, y) → am_Rr (d + 6) kX8_lookOn (34, [some (.ref 27), some (.int w1), none, some (.int w3), some (.int w4)], [], y) post → am_Rr (d + 6) kX8_lookOn (8, [some (.ref 27), some (.int v1), none, some (.int v3), some (.int v4)], [], x) post := by
  intro n
  induction n with
  | zero =>
    intro v1 v3 v4 x hF
    cases hF
  | succ n ih =>
    intro v1 v3 v4 x hF hk
    rw [L_X8_lookOn_8] at hF
    refine am_Rr.go 3 (σ' := (if v3 ≤ v4 then 34 else 14, [some (.ref 27), some (.int v1), none, some (.int v3), some (.int v4)], [], x)) rfl ?_
    refine am_Rr.ite (fun h4 => ?_) (fun h4 => ?_)
    · rw [if_pos h4] at hF
      cases hF
      exact hk
    · rw [if_neg h4] at hF
      refine am_Rr.go 4 (σ' := (18, [some (.ref 27), some (.int v1), none, some (.int v3), some (.int v4)], [.int v1, .ref 27, .ref 27, .ref 27], x)) rfl ?_
      cases g7 : G_X8_kindOfSeeker v1 x with
      | none => rw [g7] at hF; cases hF
      | some q_ =>
        obtain ⟨r5, x6⟩ := q_
        rw [g7] at hF
        dsimp only at hF
        refine am_Rr.call (pc := 21) (ls := [some (.ref 27), some (.int v1), none, some (.int v3), some (.int v4)]) (st := [.ref 27, .ref 27]) rfl (A_X8_kindOfSeeker (d + 4) g7) ?_
        rintro _ _ ⟨rfl, rfl⟩
        show am_Rr _ _ (21, [some (.ref 27), some (.int v1), none, some (.int v3), some (.int v4)], [.int r5, .ref 27, .ref 27], x6) _
        refine am_Rr.go 1 (σ' := (22, [some (.ref 27), some (.int v1), none, some (.int v3), some (.int v4)], [.int v1, .int r5, .ref 27, .ref 27], x6)) rfl ?_
        cases g10 : G_X8_looks r5 v1 x6 with
        | none => rw [g10] at hF; cases hF
        | some q_ =>
          obtain ⟨r8, x9⟩ := q_
          rw [g10] at hF
          dsimp only at hF
          refine am_Rr.call (pc := 25) (ls := [some (.ref 27), some (.int v1), none, some (.int v3), some (.int v4)]) (st := [.ref 27]) rfl (A_X8_looks (d + 1) g10) ?_
          rintro _ _ ⟨rfl, rfl⟩
          show am_Rr _ _ (25, [some (.ref 27), some (.int v1), none, some (.int v3), some (.int v4)], [.int r8, .ref 27], x9) _
          cases g13 : G_X8_passes r8 x9 with
          | none => rw [g13] at hF; cases hF
          | some q_ =>
            obtain ⟨u_, x12⟩ := q_
            rw [g13] at hF
            dsimp only at hF
            refine am_Rr.call (pc := 28) (ls := [some (.ref 27), some (.int v1), none, some (.int v3), some (.int v4)]) (st := []) rfl (A_X8_passes (d + 2) g13) ?_
            rintro _ _ ⟨rfl, rfl⟩
            show am_Rr _ _ (28, [some (.ref 27), some (.int v1), none, some (.int v3), some (.int v4)], [], x12) _
            refine am_Rr.go 2 (σ' := (8, [some (.ref 27), some (.int v1), none, some (.int v3), some (.int (v4 + 1))], [], x12)) rfl ?_
            exact ih _ _ _ _ hF hk
noncomputable def G_X8_lookOn (a : Int32) (b : Int32) (e : Int32) (x : am_X) : Option (Unit × am_X) := (match G_X8_begin b x with | none => none | some (_, x2) => (match L_X8_lookOn_8 1000 a e (0 : Int32) x2 with | none => none | some (v15, v16, v17, x14) => some ((), x14)))
theorem A_X8_lookOn (d : Nat) {a : Int32} {b : Int32} {e : Int32} {x : am_X} {res : Unit × am_X} (hF : G_X8_lookOn a b e x = some res) : am_T (d + 7) mX8_lookOn [.ref 27, .int a, .int b, .int e] x (fun ro y => ro = none ∧ res.2 = y) := by
  refine am_T.of rfl ?_
  show am_Rr (d + 6) kX8_lookOn (0, [some (.ref 27), some (.int a), some (.int b), some (.int e), none], [], x) _
  unfold G_X8_lookOn at hF
  refine am_Rr.go 2 (σ' := (2, [some (.ref 27), some (.int a), some (.int b), some (.int e), none], [.int b, .ref 27], x)) rfl ?_
  cases g3 : G_X8_begin b x with
  | none => rw [g3] at hF; cases hF
  | some q_ =>
    obtain ⟨u_, x2⟩ := q_
    rw [g3] at hF
    dsimp only at hF
    refine am_Rr.call (pc := 5) (ls := [some (.ref 27), some (.int a), some (.int b), some (.int e), none]) (st := []) rfl (A_X8_begin d g3) ?_
    rintro _ _ ⟨rfl, rfl⟩
    show am_Rr _ _ (5, [some (.ref 27), some (.int a), some (.int b), some (.int e), none], [], x2) _
    refine am_Rr.go 2 (σ' := (8, [some (.ref 27), some (.int a), some (.int b), some (.int e), some (.int 0)], [], x2)) rfl ?_
    refine am_Rr.weak (ls0 := [some (.ref 27), some (.int a), none, some (.int e), some (.int 0)]) (by simp [am_le]) ?_
    cases g18 : L_X8_lookOn_8 1000 a e (0 : Int32) x2 with
    | none => rw [g18] at hF; cases hF
    | some q_ =>
      obtain ⟨v15, v16, v17, x14⟩ := q_
      rw [g18] at hF
      dsimp only at hF
      refine L_X8_lookOn_8_ok d _ v15 v16 v17 x14 _ _ _ _ _ g18 ?_
      obtain rfl := Option.some.inj hF
      exact am_Rr.ret (v := none) (x := x14) rfl (by trivial) ⟨rfl, rfl⟩
noncomputable def L_X8_together_48 : Nat → Int32 → am_X → Option (Int32 × am_X)
  | 0, _, _ => none
  | n + 1, v2, x => (if (200 : Int32) < v2 then some ((-9 : Int32), x) else (if ¬ ((x.2.2.1 29) 3) = 0 then (match G_X8_kindOfSeeker ((v2 - 1) - (v2 - 1) / ((x.2.2.1 29) 3) * ((x.2.2.1 29) 3)) x with | none => none | some (r12, x13) => (match G_X8_looks r12 ((v2 - 1) - (v2 - 1) / ((x.2.2.1 29) 3) * ((x.2.2.1 29) 3)) x13 with | none => none | some (r15, x16) => (match G_X8_passes r15 x16 with | none => none | some (_, x19) => (match G_X8_inSet  x19 with | none => none | some (r21, x22) => (if r21 = 0 then some (v2, x22) else L_X8_together_48 n (v2 + 1) x22))))) else none))
theorem L_X8_together_48_ok (d : Nat) (res : Int32 × am_X) : ∀ (n : Nat) (v2 : Int32) (x : am_X), L_X8_together_48 n v2 x = some res → am_Rr (d + 6) kX8_together (48, [some (.ref 27), none, some (.int v2), none], [], x) (fun ro y => ro = some (.int res.1) ∧ res.2 = y) := by
  intro n
  induction n with
  | zero =>
    intro v2 x hF
    cases hF
  | succ n ih =>
    intro v2 x hF
    rw [L_X8_together_48] at hF
    refine am_Rr.go 3 (σ' := (if (200 : Int32) < v2 then 95 else 55, [some (.ref 27), none, some (.int v2), none], [], x)) rfl ?_
    refine am_Rr.ite (fun h10 => ?_) (fun h10 => ?_)
    · rw [if_pos h10] at hF
      refine am_Rr.go 1 (σ' := (97, [some (.ref 27), none, some (.int v2), none], [.int (-9)], x)) rfl ?_
      obtain rfl := Option.some.inj hF
      exact am_Rr.ret (v := some (.int (-9))) (x := x) rfl (by trivial) ⟨rfl, rfl⟩
    · rw [if_neg h10] at hF
      refine am_Rr.go 6 (σ' := (63, [some (.ref 27), none, some (.int v2), none], [.int 3, .ref 29, .int (v2 - 1)], x)) rfl ?_
      refine am_Rr.chk (σ' := (64, [some (.ref 27), none, some (.int v2), none], [.int ((x.2.2.1 29) 3), .int (v2 - 1)], x)) rfl (by unfold vp_in; decide) ?_
      by_cases c11 : ¬ ((x.2.2.1 29) 3) = 0
      · rw [if_pos c11] at hF
        refine am_Rr.chk (σ' := (65, [some (.ref 27), none, some (.int v2), none], [.int ((v2 - 1) - (v2 - 1) / ((x.2.2.1 29) 3) * ((x.2.2.1 29) 3))], x)) rfl (by exact c11) ?_
        refine am_Rr.go 5 (σ' := (70, [some (.ref 27), none, some (.int v2), some (.int ((v2 - 1) - (v2 - 1) / ((x.2.2.1 29) 3) * ((x.2.2.1 29) 3)))], [.int ((v2 - 1) - (v2 - 1) / ((x.2.2.1 29) 3) * ((x.2.2.1 29) 3)), .ref 27, .ref 27, .ref 27], x)) rfl ?_
        cases g14 : G_X8_kindOfSeeker ((v2 - 1) - (v2 - 1) / ((x.2.2.1 29) 3) * ((x.2.2.1 29) 3)) x with
        | none => rw [g14] at hF; cases hF
        | some q_ =>
          obtain ⟨r12, x13⟩ := q_
          rw [g14] at hF
          dsimp only at hF
          refine am_Rr.call (pc := 73) (ls := [some (.ref 27), none, some (.int v2), some (.int ((v2 - 1) - (v2 - 1) / ((x.2.2.1 29) 3) * ((x.2.2.1 29) 3)))]) (st := [.ref 27, .ref 27]) rfl (A_X8_kindOfSeeker (d + 4) g14) ?_
          rintro _ _ ⟨rfl, rfl⟩
          show am_Rr _ _ (73, [some (.ref 27), none, some (.int v2), some (.int ((v2 - 1) - (v2 - 1) / ((x.2.2.1 29) 3) * ((x.2.2.1 29) 3)))], [.int r12, .ref 27, .ref 27], x13) _
          refine am_Rr.go 1 (σ' := (74, [some (.ref 27), none, some (.int v2), some (.int ((v2 - 1) - (v2 - 1) / ((x.2.2.1 29) 3) * ((x.2.2.1 29) 3)))], [.int ((v2 - 1) - (v2 - 1) / ((x.2.2.1 29) 3) * ((x.2.2.1 29) 3)), .int r12, .ref 27, .ref 27], x13)) rfl ?_
          cases g17 : G_X8_looks r12 ((v2 - 1) - (v2 - 1) / ((x.2.2.1 29) 3) * ((x.2.2.1 29) 3)) x13 with
          | none => rw [g17] at hF; cases hF
          | some q_ =>
            obtain ⟨r15, x16⟩ := q_
            rw [g17] at hF
            dsimp only at hF
            refine am_Rr.call (pc := 77) (ls := [some (.ref 27), none, some (.int v2), some (.int ((v2 - 1) - (v2 - 1) / ((x.2.2.1 29) 3) * ((x.2.2.1 29) 3)))]) (st := [.ref 27]) rfl (A_X8_looks (d + 1) g17) ?_
            rintro _ _ ⟨rfl, rfl⟩
            show am_Rr _ _ (77, [some (.ref 27), none, some (.int v2), some (.int ((v2 - 1) - (v2 - 1) / ((x.2.2.1 29) 3) * ((x.2.2.1 29) 3)))], [.int r15, .ref 27], x16) _
            cases g20 : G_X8_passes r15 x16 with
            | none => rw [g20] at hF; cases hF
            | some q_ =>
              obtain ⟨u_, x19⟩ := q_
              rw [g20] at hF
              dsimp only at hF
              refine am_Rr.call (pc := 80) (ls := [some (.ref 27), none, some (.int v2), some (.int ((v2 - 1) - (v2 - 1) / ((x.2.2.1 29) 3) * ((x.2.2.1 29) 3)))]) (st := []) rfl (A_X8_passes (d + 2) g20) ?_
              rintro _ _ ⟨rfl, rfl⟩
              show am_Rr _ _ (80, [some (.ref 27), none, some (.int v2), some (.int ((v2 - 1) - (v2 - 1) / ((x.2.2.1 29) 3) * ((x.2.2.1 29) 3)))], [], x19) _
              refine am_Rr.go 1 (σ' := (81, [some (.ref 27), none, some (.int v2), some (.int ((v2 - 1) - (v2 - 1) / ((x.2.2.1 29) 3) * ((x.2.2.1 29) 3)))], [.ref 27], x19)) rfl ?_
              cases g23 : G_X8_inSet  x19 with
              | none => rw [g23] at hF; cases hF
              | some q_ =>
                obtain ⟨r21, x22⟩ := q_
                rw [g23] at hF
                dsimp only at hF
                refine am_Rr.call (pc := 84) (ls := [some (.ref 27), none, some (.int v2), some (.int ((v2 - 1) - (v2 - 1) / ((x.2.2.1 29) 3) * ((x.2.2.1 29) 3)))]) (st := []) rfl (A_X8_inSet (d + 4) g23) ?_
                rintro _ _ ⟨rfl, rfl⟩
                show am_Rr _ _ (84, [some (.ref 27), none, some (.int v2), some (.int ((v2 - 1) - (v2 - 1) / ((x.2.2.1 29) 3) * ((x.2.2.1 29) 3)))], [.int r21], x22) _
                refine am_Rr.go 1 (σ' := (if r21 = 0 then 87 else 89, [some (.ref 27), none, some (.int v2), some (.int ((v2 - 1) - (v2 - 1) / ((x.2.2.1 29) 3) * ((x.2.2.1 29) 3)))], [], x22)) rfl ?_
                refine am_Rr.ite (fun h24 => ?_) (fun h24 => ?_)
                · rw [if_pos h24] at hF
                  refine am_Rr.go 1 (σ' := (88, [some (.ref 27), none, some (.int v2), some (.int ((v2 - 1) - (v2 - 1) / ((x.2.2.1 29) 3) * ((x.2.2.1 29) 3)))], [.int v2], x22)) rfl ?_
                  obtain rfl := Option.some.inj hF
                  exact am_Rr.ret (v := some (.int v2)) (x := x22) rfl (by trivial) ⟨rfl, rfl⟩
                · rw [if_neg h24] at hF
                  refine am_Rr.go 2 (σ' := (48, [some (.ref 27), none, some (.int (v2 + 1)), some (.int ((v2 - 1) - (v2 - 1) / ((x.2.2.1 29) 3) * ((x.2.2.1 29) 3)))], [], x22)) rfl ?_
                  refine am_Rr.weak (ls0 := [some (.ref 27), none, some (.int (v2 + 1)), none]) (by simp [am_le]) ?_
                  exact ih _ _ hF
      · rw [if_neg c11] at hF
        cases hF
noncomputable def G_X8_together (a : Int32) (x : am_X) : Option (Int32 × am_X) := (if ((x.2.2.1 29) 3) = 0 then (match G_X8_no (-3 : Int32) x with | none => none | some (r2, x3) => some (r2, x3)) else (if (0 : Int32) ≤ a then (if a ≤ 999 then (match G_X8_begin a x with | none => none | some (_, x8) => L_X8_together_48 1000 (1 : Int32) x8) else (match G_X8_no (-6 : Int32) x with | none => none | some (r27, x28) => some (r27, x28))) else (match G_X8_no (-4 : Int32) x with | none => none | some (r30, x31) => some (r30, x31))))
theorem A_X8_together (d : Nat) {a : Int32} {x : am_X} {res : Int32 × am_X} (hF : G_X8_together a x = some res) : am_T (d + 7) mX8_together [.ref 27, .int a] x (fun ro y => ro = some (.int res.1) ∧ res.2 = y) := by
  refine am_T.of rfl ?_
  show am_Rr (d + 6) kX8_together (0, [some (.ref 27), some (.int a), none, none], [], x) _
  unfold G_X8_together at hF
  refine am_Rr.go 3 (σ' := (5, [some (.ref 27), some (.int a), none, none], [.int 3, .ref 29], x)) rfl ?_
  refine am_Rr.chk (σ' := (6, [some (.ref 27), some (.int a), none, none], [.int ((x.2.2.1 29) 3)], x)) rfl (by unfold vp_in; decide) ?_
  refine am_Rr.go 1 (σ' := (if ((x.2.2.1 29) 3) = 0 then 9 else 16, [some (.ref 27), some (.int a), none, none], [], x)) rfl ?_
  refine am_Rr.ite (fun h1 => ?_) (fun h1 => ?_)
  · rw [if_pos h1] at hF
    refine am_Rr.go 2 (σ' := (12, [some (.ref 27), some (.int a), none, none], [.int (-3), .ref 27], x)) rfl ?_
    cases g4 : G_X8_no (-3 : Int32) x with
    | none => rw [g4] at hF; cases hF
    | some q_ =>
      obtain ⟨r2, x3⟩ := q_
      rw [g4] at hF
      dsimp only at hF
      refine am_Rr.call (pc := 15) (ls := [some (.ref 27), some (.int a), none, none]) (st := []) rfl (A_X8_no (d + 4) g4) ?_
      rintro _ _ ⟨rfl, rfl⟩
      show am_Rr _ _ (15, [some (.ref 27), some (.int a), none, none], [.int r2], x3) _
      obtain rfl := Option.some.inj hF
      exact am_Rr.ret (v := some (.int r2)) (x := x3) rfl (by trivial) ⟨rfl, rfl⟩
  · rw [if_neg h1] at hF
    refine am_Rr.go 2 (σ' := (if (0 : Int32) ≤ a then 27 else 20, [some (.ref 27), some (.int a), none, none], [], x)) rfl ?_
    refine am_Rr.ite (fun h5 => ?_) (fun h5 => ?_)
    · rw [if_pos h5] at hF
      refine am_Rr.go 3 (σ' := (if a ≤ 999 then 41 else 34, [some (.ref 27), some (.int a), none, none], [], x)) rfl ?_
      refine am_Rr.ite (fun h6 => ?_) (fun h6 => ?_)
      · rw [if_pos h6] at hF
        refine am_Rr.go 2 (σ' := (43, [some (.ref 27), some (.int a), none, none], [.int a, .ref 27], x)) rfl ?_
        cases g9 : G_X8_begin a x with
        | none => rw [g9] at hF; cases hF
        | some q_ =>
          obtain ⟨u_, x8⟩ := q_
          rw [g9] at hF
          dsimp only at hF
          refine am_Rr.call (pc := 46) (ls := [some (.ref 27), some (.int a), none, none]) (st := []) rfl (A_X8_begin d g9) ?_
          rintro _ _ ⟨rfl, rfl⟩
          show am_Rr _ _ (46, [some (.ref 27), some (.int a), none, none], [], x8) _
          refine am_Rr.go 2 (σ' := (48, [some (.ref 27), some (.int a), some (.int 1), none], [], x8)) rfl ?_
          refine am_Rr.weak (ls0 := [some (.ref 27), none, some (.int 1), none]) (by simp [am_le]) ?_
          exact L_X8_together_48_ok d res _ _ _ hF
      · rw [if_neg h6] at hF
        refine am_Rr.go 2 (σ' := (37, [some (.ref 27), some (.int a), none, none], [.int (-6), .ref 27], x)) rfl ?_
        cases g29 : G_X8_no (-6 : Int32) x with
        | none => rw [g29] at hF; cases hF
        | some q_ =>
          obtain ⟨r27, x28⟩ := q_
          rw [g29] at hF
          dsimp only at hF
          refine am_Rr.call (pc := 40) (ls := [some (.ref 27), some (.int a), none, none]) (st := []) rfl (A_X8_no (d + 4) g29) ?_
          rintro _ _ ⟨rfl, rfl⟩
          show am_Rr _ _ (40, [some (.ref 27), some (.int a), none, none], [.int r27], x28) _
          obtain rfl := Option.some.inj hF
          exact am_Rr.ret (v := some (.int r27)) (x := x28) rfl (by trivial) ⟨rfl, rfl⟩
    · rw [if_neg h5] at hF
      refine am_Rr.go 2 (σ' := (23, [some (.ref 27), some (.int a), none, none], [.int (-4), .ref 27], x)) rfl ?_
      cases g32 : G_X8_no (-4 : Int32) x with
      | none => rw [g32] at hF; cases hF
      | some q_ =>
        obtain ⟨r30, x31⟩ := q_
        rw [g32] at hF
        dsimp only at hF
        refine am_Rr.call (pc := 26) (ls := [some (.ref 27), some (.int a), none, none]) (st := []) rfl (A_X8_no (d + 4) g32) ?_
        rintro _ _ ⟨rfl, rfl⟩
        show am_Rr _ _ (26, [some (.ref 27), some (.int a), none, none], [.int r30], x31) _
        obtain rfl := Option.some.inj hF
        exact am_Rr.ret (v := some (.int r30)) (x := x31) rfl (by trivial) ⟨rfl, rfl⟩
noncomputable def L_X8_hold_52 : Nat → Int32 → Int32 → am_X → Option (Int32 × Int32 × am_X)
  | 0, _, _, _ => none
  | n + 1, v1, v2, x => (if (x.1 885) ≤ v2 then some (v1, v2, x) else (if 0 ≤ v2.toInt ∧ v2.toInt < 12 then (if ((x.2.2.1 42) v2.toNatClampNeg) = ((x.2.2.1 29) 0) then (if 0 ≤ ((x.2.2.1 42) v2.toNatClampNeg).toInt ∧ ((x.2.2.1 42) v2.toNatClampNeg).toInt < 36 then L_X8_hold_52 n v1 (v2 + 1) (am_sA x 37 (upd (x.2.2.1 37) (((x.2.2.1 42) v2.toNatClampNeg).toNatClampNeg) 0)) else none) else (if 0 ≤ ((x.2.2.1 42) v2.toNatClampNeg).toInt ∧ ((x.2.2.1 42) v2.toNatClampNeg).toInt < 36 then L_X8_hold_52 n v1 (v2 + 1) (am_sA x 37 (upd (x.2.2.1 37) (((x.2.2.1 42) v2.toNatClampNeg).toNatClampNeg) 1)) else none)) else none))
theorem L_X8_hold_52_ok (d : Nat) (post : Option Value → am_X → Prop) (w1 : Int32) (w2 : Int32) (y : am_X) : ∀ (n : Nat) (v1 : Int32) (v2 : Int32) (x : am_X), L_X8_hold_52 n v1 v2 x = some (w1, w2, y) → am_Rr (d + 6) kX8_hold (97, [some (.ref 27), some (.int w1), some (.int w2)], [], y) post → am_Rr (d + 6) kX8_hold (52, [some (.ref 27), some (.int v1), some (.int v2)], [], x) post := by
  intro n
  induction n with
  | zero =>
    intro v1 v2 x hF
    cases hF
  | succ n ih =>
    intro v1 v2 x hF hk
    rw [L_X8_hold_52] at hF
    refine am_Rr.go 4 (σ' := (if (x.1 885) ≤ v2 then 97 else 60, [some (.ref 27), some (.int v1), some (.int v2)], [], x)) rfl ?_
    refine am_Rr.ite (fun h7 => ?_) (fun h7 => ?_)
    · rw [if_pos h7] at hF
      cases hF
      exact hk
    · rw [if_neg h7] at hF
      refine am_Rr.go 5 (σ' := (69, [some (.ref 27), some (.int v1), some (.int v2)], [.int v2, .ref 42, .ref 37], x)) rfl ?_
      by_cases c8 : 0 ≤ v2.toInt ∧ v2.toInt < 12
      · rw [if_pos c8] at hF
        refine am_Rr.chk (σ' := (70, [some (.ref 27), some (.int v1), some (.int v2)], [.int ((x.2.2.1 42) v2.toNatClampNeg), .ref 37], x)) rfl (by exact vp_in_iff.mpr c8) ?_
        refine am_Rr.go 3 (σ' := (75, [some (.ref 27), some (.int v1), some (.int v2)], [.int v2, .ref 42, .int ((x.2.2.1 42) v2.toNatClampNeg), .ref 37], x)) rfl ?_
        refine am_Rr.chk (σ' := (76, [some (.ref 27), some (.int v1), some (.int v2)], [.int ((x.2.2.1 42) v2.toNatClampNeg), .int ((x.2.2.1 42) v2.toNatClampNeg), .ref 37], x)) rfl (by exact vp_in_iff.mpr c8) ?_
        refine am_Rr.go 3 (σ' := (81, [some (.ref 27), some (.int v1), some (.int v2)], [.int 0, .ref 29, .int ((x.2.2.1 42) v2.toNatClampNeg), .int ((x.2.2.1 42) v2.toNatClampNeg), .ref 37], x)) rfl ?_
        refine am_Rr.chk (σ' := (82, [some (.ref 27), some (.int v1), some (.int v2)], [.int ((x.2.2.1 29) 0), .int ((x.2.2.1 42) v2.toNatClampNeg), .int ((x.2.2.1 42) v2.toNatClampNeg), .ref 37], x)) rfl (by unfold vp_in; decide) ?_
        refine am_Rr.go 1 (σ' := (if ((x.2.2.1 42) v2.toNatClampNeg) = ((x.2.2.1 29) 0) then 89 else 85, [some (.ref 27), some (.int v1), some (.int v2)], [.int ((x.2.2.1 42) v2.toNatClampNeg), .ref 37], x)) rfl ?_
        refine am_Rr.ite (fun h9 => ?_) (fun h9 => ?_)
        · rw [if_pos h9] at hF
          refine am_Rr.go 1 (σ' := (90, [some (.ref 27), some (.int v1), some (.int v2)], [.int 0, .int ((x.2.2.1 42) v2.toNatClampNeg), .ref 37], x)) rfl ?_
          by_cases c10 : 0 ≤ ((x.2.2.1 42) v2.toNatClampNeg).toInt ∧ ((x.2.2.1 42) v2.toNatClampNeg).toInt < 36
          · rw [if_pos c10] at hF
            refine am_Rr.chk (σ' := (91, [some (.ref 27), some (.int v1), some (.int v2)], [], (am_sA x 37 (upd (x.2.2.1 37) (((x.2.2.1 42) v2.toNatClampNeg).toNatClampNeg) 0)))) rfl (by exact vp_in_iff.mpr c10) ?_
            refine am_Rr.go 2 (σ' := (52, [some (.ref 27), some (.int v1), some (.int (v2 + 1))], [], (am_sA x 37 (upd (x.2.2.1 37) (((x.2.2.1 42) v2.toNatClampNeg).toNatClampNeg) 0)))) rfl ?_
            exact ih _ _ _ hF hk
          · rw [if_neg c10] at hF
            cases hF
        · rw [if_neg h9] at hF
          refine am_Rr.go 2 (σ' := (90, [some (.ref 27), some (.int v1), some (.int v2)], [.int 1, .int ((x.2.2.1 42) v2.toNatClampNeg), .ref 37], x)) rfl ?_
          by_cases c11 : 0 ≤ ((x.2.2.1 42) v2.toNatClampNeg).toInt ∧ ((x.2.2.1 42) v2.toNatClampNeg).toInt < 36
          · rw [if_pos c11] at hF
            refine am_Rr.chk (σ' := (91, [some (.ref 27), some (.int v1), some (.int v2)], [], (am_sA x 37 (upd (x.2.2.1 37) (((x.2.2.1 42) v2.toNatClampNeg).toNatClampNeg) 1)))) rfl (by exact vp_in_iff.mpr c11) ?_
            refine am_Rr.go 2 (σ' := (52, [some (.ref 27), some (.int v1), some (.int (v2 + 1))], [], (am_sA x 37 (upd (x.2.2.1 37) (((x.2.2.1 42) v2.toNatClampNeg).toNatClampNeg) 1)))) rfl ?_
            exact ih _ _ _ hF hk
          · rw [if_neg c11] at hF
            cases hF
      · rw [if_neg c8] at hF
        cases hF
noncomputable def L_X8_hold_18 : Nat → Int32 → Int32 → am_X → Option (Int32 × am_X)
  | 0, _, _, _ => none
  | n + 1, v1, v2, x => (if (x.1 885) ≤ v2 then (match L_X8_hold_52 1000 v1 (0 : Int32) x with | none => none | some (v13, v14, x12) => (if v13 = 0 then (match G_X8_minutesOut  x12 with | none => none | some (r17, x18) => (if (100000 : Int32) ≤ r17 then (match G_X8_holdNone  x18 with | none => none | some (_, x22) => some ((0 : Int32), x22)) else (match G_X8_holdNone  x18 with | none => none | some (_, x25) => some ((1 : Int32), x25)))) else (if v13 = 1 then (match G_X8_reached  x12 with | none => none | some (r28, x29) => (match G_X8_holdNone  x29 with | none => none | some (_, x32) => some (r28, x32))) else (match G_X8_oneMore  x12 with | none => none | some (r34, x35) => (match G_X8_holdNone  x35 with | none => none | some (_, x38) => some (r34, x38)))))) else (if 0 ≤ v2.toInt ∧ v2.toInt < 12 then (if ((x.2.2.1 42) v2.toNatClampNeg) < 36 then L_X8_hold_18 n v1 (v2 + 1) x else (match G_X8_no (-3 : Int32) x with | none => none | some (r42, x43) => some (r42, x43))) else none))
theorem L_X8_hold_18_ok (d : Nat) (res : Int32 × am_X) : ∀ (n : Nat) (v1 : Int32) (v2 : Int32) (x : am_X), L_X8_hold_18 n v1 v2 x = some res → am_Rr (d + 6) kX8_hold (18, [some (.ref 27), some (.int v1), some (.int v2)], [], x) (fun ro y => ro = some (.int res.1) ∧ res.2 = y) := by
  intro n
  induction n with
  | zero =>
    intro v1 v2 x hF
    cases hF
  | succ n ih =>
    intro v1 v2 x hF
    rw [L_X8_hold_18] at hF
    refine am_Rr.go 4 (σ' := (if (x.1 885) ≤ v2 then 50 else 26, [some (.ref 27), some (.int v1), some (.int v2)], [], x)) rfl ?_
    refine am_Rr.ite (fun h6 => ?_) (fun h6 => ?_)
    · rw [if_pos h6] at hF
      refine am_Rr.go 2 (σ' := (52, [some (.ref 27), some (.int v1), some (.int 0)], [], x)) rfl ?_
      cases g15 : L_X8_hold_52 1000 v1 (0 : Int32) x with
      | none => rw [g15] at hF; cases hF
      | some q_ =>
        obtain ⟨v13, v14, x12⟩ := q_
        rw [g15] at hF
        dsimp only at hF
        refine L_X8_hold_52_ok d _ v13 v14 x12 _ _ _ _ g15 ?_
        refine am_Rr.go 2 (σ' := (if v13 = 0 then 101 else 119, [some (.ref 27), some (.int v13), some (.int v14)], [], x12)) rfl ?_
        refine am_Rr.ite (fun h16 => ?_) (fun h16 => ?_)
        · rw [if_pos h16] at hF
          refine am_Rr.go 1 (σ' := (102, [some (.ref 27), some (.int v13), some (.int v14)], [.ref 27], x12)) rfl ?_
          cases g19 : G_X8_minutesOut  x12 with
          | none => rw [g19] at hF; cases hF
          | some q_ =>
            obtain ⟨r17, x18⟩ := q_
            rw [g19] at hF
            dsimp only at hF
            refine am_Rr.call (pc := 105) (ls := [some (.ref 27), some (.int v13), some (.int v14)]) (st := []) rfl (A_X8_minutesOut (d + 1) g19) ?_
            rintro _ _ ⟨rfl, rfl⟩
            show am_Rr _ _ (105, [some (.ref 27), some (.int v13), some (.int v14)], [.int r17], x18) _
            refine am_Rr.go 2 (σ' := (if (100000 : Int32) ≤ r17 then 114 else 110, [some (.ref 27), some (.int v13), some (.int v14)], [], x18)) rfl ?_
            refine am_Rr.ite (fun h20 => ?_) (fun h20 => ?_)
            · rw [if_pos h20] at hF
              refine am_Rr.go 4 (σ' := (138, [some (.ref 27), some (.int v13), some (.int 0)], [.ref 27], x18)) rfl ?_
              cases g23 : G_X8_holdNone  x18 with
              | none => rw [g23] at hF; cases hF
              | some q_ =>
                obtain ⟨u_, x22⟩ := q_
                rw [g23] at hF
                dsimp only at hF
                refine am_Rr.call (pc := 141) (ls := [some (.ref 27), some (.int v13), some (.int 0)]) (st := []) rfl (A_X8_holdNone (d + 4) g23) ?_
                rintro _ _ ⟨rfl, rfl⟩
                show am_Rr _ _ (141, [some (.ref 27), some (.int v13), some (.int 0)], [], x22) _
                refine am_Rr.go 1 (σ' := (142, [some (.ref 27), some (.int v13), some (.int 0)], [.int 0], x22)) rfl ?_
                obtain rfl := Option.some.inj hF
                exact am_Rr.ret (v := some (.int 0)) (x := x22) rfl (by trivial) ⟨rfl, rfl⟩
            · rw [if_neg h20] at hF
              refine am_Rr.go 5 (σ' := (138, [some (.ref 27), some (.int v13), some (.int 1)], [.ref 27], x18)) rfl ?_
              cases g26 : G_X8_holdNone  x18 with
              | none => rw [g26] at hF; cases hF
              | some q_ =>
                obtain ⟨u_, x25⟩ := q_
                rw [g26] at hF
                dsimp only at hF
                refine am_Rr.call (pc := 141) (ls := [some (.ref 27), some (.int v13), some (.int 1)]) (st := []) rfl (A_X8_holdNone (d + 4) g26) ?_
                rintro _ _ ⟨rfl, rfl⟩
                show am_Rr _ _ (141, [some (.ref 27), some (.int v13), some (.int 1)], [], x25) _
                refine am_Rr.go 1 (σ' := (142, [some (.ref 27), some (.int v13), some (.int 1)], [.int 1], x25)) rfl ?_
                obtain rfl := Option.some.inj hF
                exact am_Rr.ret (v := some (.int 1)) (x := x25) rfl (by trivial) ⟨rfl, rfl⟩
        · rw [if_neg h16] at hF
          refine am_Rr.go 3 (σ' := (if v13 = 1 then 124 else 132, [some (.ref 27), some (.int v13), some (.int v14)], [], x12)) rfl ?_
          refine am_Rr.ite (fun h27 => ?_) (fun h27 => ?_)
          · rw [if_pos h27] at hF
            refine am_Rr.go 1 (σ' := (125, [some (.ref 27), some (.int v13), some (.int v14)], [.ref 27], x12)) rfl ?_
            cases g30 : G_X8_reached  x12 with
            | none => rw [g30] at hF; cases hF
            | some q_ =>
              obtain ⟨r28, x29⟩ := q_
              rw [g30] at hF
              dsimp only at hF
              refine am_Rr.call (pc := 128) (ls := [some (.ref 27), some (.int v13), some (.int v14)]) (st := []) rfl (A_X8_reached (d + 1) g30) ?_
              rintro _ _ ⟨rfl, rfl⟩
              show am_Rr _ _ (128, [some (.ref 27), some (.int v13), some (.int v14)], [.int r28], x29) _
              refine am_Rr.go 3 (σ' := (138, [some (.ref 27), some (.int v13), some (.int r28)], [.ref 27], x29)) rfl ?_
              cases g33 : G_X8_holdNone  x29 with
              | none => rw [g33] at hF; cases hF
              | some q_ =>
                obtain ⟨u_, x32⟩ := q_
                rw [g33] at hF
                dsimp only at hF
                refine am_Rr.call (pc := 141) (ls := [some (.ref 27), some (.int v13), some (.int r28)]) (st := []) rfl (A_X8_holdNone (d + 4) g33) ?_
                rintro _ _ ⟨rfl, rfl⟩
                show am_Rr _ _ (141, [some (.ref 27), some (.int v13), some (.int r28)], [], x32) _
                refine am_Rr.go 1 (σ' := (142, [some (.ref 27), some (.int v13), some (.int r28)], [.int r28], x32)) rfl ?_
                obtain rfl := Option.some.inj hF
                exact am_Rr.ret (v := some (.int r28)) (x := x32) rfl (by trivial) ⟨rfl, rfl⟩
          · rw [if_neg h27] at hF
            refine am_Rr.go 1 (σ' := (133, [some (.ref 27), some (.int v13), some (.int v14)], [.ref 27], x12)) rfl ?_
            cases g36 : G_X8_oneMore  x12 with
            | none => rw [g36] at hF; cases hF
            | some q_ =>
              obtain ⟨r34, x35⟩ := q_
              rw [g36] at hF
              dsimp only at hF
              refine am_Rr.call (pc := 136) (ls := [some (.ref 27), some (.int v13), some (.int v14)]) (st := []) rfl (A_X8_oneMore d g36) ?_
              rintro _ _ ⟨rfl, rfl⟩
              show am_Rr _ _ (136, [some (.ref 27), some (.int v13), some (.int v14)], [.int r34], x35) _
              refine am_Rr.go 2 (σ' := (138, [some (.ref 27), some (.int v13), some (.int r34)], [.ref 27], x35)) rfl ?_
              cases g39 : G_X8_holdNone  x35 with
              | none => rw [g39] at hF; cases hF
              | some q_ =>
                obtain ⟨u_, x38⟩ := q_
                rw [g39] at hF
                dsimp only at hF
                refine am_Rr.call (pc := 141) (ls := [some (.ref 27), some (.int v13), some (.int r34)]) (st := []) rfl (A_X8_holdNone (d + 4) g39) ?_
                rintro _ _ ⟨rfl, rfl⟩
                show am_Rr _ _ (141, [some (.ref 27), some (.int v13), some (.int r34)], [], x38) _
                refine am_Rr.go 1 (σ' := (142, [some (.ref 27), some (.int v13), some (.int r34)], [.int r34], x38)) rfl ?_
                obtain rfl := Option.some.inj hF
                exact am_Rr.ret (v := some (.int r34)) (x := x38) rfl (by trivial) ⟨rfl, rfl⟩
    · rw [if_neg h6] at hF
      refine am_Rr.go 3 (σ' := (31, [some (.ref 27), some (.int v1), some (.int v2)], [.int v2, .ref 42], x)) rfl ?_
      by_cases c40 : 0 ≤ v2.toInt ∧ v2.toInt < 12
      · rw [if_pos c40] at hF
        refine am_Rr.chk (σ' := (32, [some (.ref 27), some (.int v1), some (.int v2)], [.int ((x.2.2.1 42) v2.toNatClampNeg)], x)) rfl (by exact vp_in_iff.mpr c40) ?_
        refine am_Rr.go 2 (σ' := (if ((x.2.2.1 42) v2.toNatClampNeg) < 36 then 44 else 37, [some (.ref 27), some (.int v1), some (.int v2)], [], x)) rfl ?_
        refine am_Rr.ite (fun h41 => ?_) (fun h41 => ?_)
        · rw [if_pos h41] at hF
          refine am_Rr.go 2 (σ' := (18, [some (.ref 27), some (.int v1), some (.int (v2 + 1))], [], x)) rfl ?_
          exact ih _ _ _ hF
        · rw [if_neg h41] at hF
          refine am_Rr.go 2 (σ' := (40, [some (.ref 27), some (.int v1), some (.int v2)], [.int (-3), .ref 27], x)) rfl ?_
          cases g44 : G_X8_no (-3 : Int32) x with
          | none => rw [g44] at hF; cases hF
          | some q_ =>
            obtain ⟨r42, x43⟩ := q_
            rw [g44] at hF
            dsimp only at hF
            refine am_Rr.call (pc := 43) (ls := [some (.ref 27), some (.int v1), some (.int v2)]) (st := []) rfl (A_X8_no (d + 4) g44) ?_
            rintro _ _ ⟨rfl, rfl⟩
            show am_Rr _ _ (43, [some (.ref 27), some (.int v1), some (.int v2)], [.int r42], x43) _
            obtain rfl := Option.some.inj hF
            exact am_Rr.ret (v := some (.int r42)) (x := x43) rfl (by trivial) ⟨rfl, rfl⟩
      · rw [if_neg c40] at hF
        cases hF
noncomputable def G_X8_hold (a : Int32) (x : am_X) : Option (Int32 × am_X) := (if a < 0 then (match G_X8_no (-2 : Int32) x with | none => none | some (r2, x3) => some (r2, x3)) else (if a ≤ 2 then L_X8_hold_18 1000 a (0 : Int32) x else (match G_X8_no (-2 : Int32) x with | none => none | some (r48, x49) => some (r48, x49))))
theorem A_X8_hold (d : Nat) {a : Int32} {x : am_X} {res : Int32 × am_X} (hF : G_X8_hold a x = some res) : am_T (d + 7) mX8_hold [.ref 27, .int a] x (fun ro y => ro = some (.int res.1) ∧ res.2 = y) := by
  refine am_T.of rfl ?_
  show am_Rr (d + 6) kX8_hold (0, [some (.ref 27), some (.int a), none], [], x) _
  unfold G_X8_hold at hF
  refine am_Rr.go 2 (σ' := (if a < 0 then 9 else 4, [some (.ref 27), some (.int a), none], [], x)) rfl ?_
  refine am_Rr.ite (fun h1 => ?_) (fun h1 => ?_)
  · rw [if_pos h1] at hF
    refine am_Rr.go 2 (σ' := (12, [some (.ref 27), some (.int a), none], [.int (-2), .ref 27], x)) rfl ?_
    cases g4 : G_X8_no (-2 : Int32) x with
    | none => rw [g4] at hF; cases hF
    | some q_ =>
      obtain ⟨r2, x3⟩ := q_
      rw [g4] at hF
      dsimp only at hF
      refine am_Rr.call (pc := 15) (ls := [some (.ref 27), some (.int a), none]) (st := []) rfl (A_X8_no (d + 4) g4) ?_
      rintro _ _ ⟨rfl, rfl⟩
      show am_Rr _ _ (15, [some (.ref 27), some (.int a), none], [.int r2], x3) _
      obtain rfl := Option.some.inj hF
      exact am_Rr.ret (v := some (.int r2)) (x := x3) rfl (by trivial) ⟨rfl, rfl⟩
  · rw [if_neg h1] at hF
    refine am_Rr.go 3 (σ' := (if a ≤ 2 then 16 else 9, [some (.ref 27), some (.int a), none], [], x)) rfl ?_
    refine am_Rr.ite (fun h5 => ?_) (fun h5 => ?_)
    · rw [if_pos h5] at hF
      refine am_Rr.go 2 (σ' := (18, [some (.ref 27), some (.int a), some (.int 0)], [], x)) rfl ?_
      exact L_X8_hold_18_ok d res _ _ _ _ hF
    · rw [if_neg h5] at hF
      refine am_Rr.go 2 (σ' := (12, [some (.ref 27), some (.int a), none], [.int (-2), .ref 27], x)) rfl ?_
      cases g50 : G_X8_no (-2 : Int32) x with
      | none => rw [g50] at hF; cases hF
      | some q_ =>
        obtain ⟨r48, x49⟩ := q_
        rw [g50] at hF
        dsimp only at hF
        refine am_Rr.call (pc := 15) (ls := [some (.ref 27), some (.int a), none]) (st := []) rfl (A_X8_no (d + 4) g50) ?_
        rintro _ _ ⟨rfl, rfl⟩
        show am_Rr _ _ (15, [some (.ref 27), some (.int a), none], [.int r48], x49) _
        obtain rfl := Option.some.inj hF
        exact am_Rr.ret (v := some (.int r48)) (x := x49) rfl (by trivial) ⟨rfl, rfl⟩
