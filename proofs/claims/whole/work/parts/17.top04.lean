noncomputable def L_X7_firstGap_18 : Nat → Int64 → Int32 → Int32 → Int32 → am_X → Option (Int32 × am_X)
  | 0, _, _, _, _, _ => none
  | n + 1, v1, v3, v4, v5, x => (if (36 : Int32) ≤ v5 then some (v3, x) else (if am_hasb v1 v5 then (match G_X6_stepsTo_18 (am_sqo ((am_spx x (x.1 36) (am_bit v5)).2.2.2 2) (5 : Int32)) (am_spx x (x.1 36) (am_bit v5)) with | none => none | some (r3, x4) => (if (0 : Int32) ≤ r3 then (if r3 ≤ v4 then L_X7_firstGap_18 n v1 v3 v4 (v5 + 1) x4 else L_X7_firstGap_18 n v1 v5 r3 (v5 + 1) x4) else (if (1000000 : Int32) ≤ v4 then L_X7_firstGap_18 n v1 v3 v4 (v5 + 1) x4 else L_X7_firstGap_18 n v1 v5 (1000000 : Int32) (v5 + 1) x4))) else L_X7_firstGap_18 n v1 v3 v4 (v5 + 1) x))
theorem L_X7_firstGap_18_ok (d : Nat) (res : Int32 × am_X) : ∀ (n : Nat) (v1 : Int64) (v3 : Int32) (v4 : Int32) (v5 : Int32) (x : am_X), L_X7_firstGap_18 n v1 v3 v4 v5 x = some res → am_Rr (d + 4) kX7_firstGap (18, [some (.ref 0), some (.long v1), none, some (.int v3), some (.int v4), some (.int v5), none, none], [], x) (fun ro y => ro = some (.int res.1) ∧ res.2 = y) := by
  intro n
  induction n with
  | zero =>
    intro v1 v3 v4 v5 x hF
    cases hF
  | succ n ih =>
    intro v1 v3 v4 v5 x hF
    rw [L_X7_firstGap_18] at hF
    refine am_Rr.go 3 (σ' := (if (36 : Int32) ≤ v5 then 111 else 25, [some (.ref 0), some (.long v1), none, some (.int v3), some (.int v4), some (.int v5), none, none], [], x)) rfl ?_
    refine am_Rr.ite (fun h1 => ?_) (fun h1 => ?_)
    · rw [if_pos h1] at hF
      refine am_Rr.go 1 (σ' := (112, [some (.ref 0), some (.long v1), none, some (.int v3), some (.int v4), some (.int v5), none, none], [.int v3], x)) rfl ?_
      obtain rfl := Option.some.inj hF
      exact am_Rr.ret (v := some (.int v3)) (x := x) rfl (by trivial) ⟨rfl, rfl⟩
    · rw [if_neg h1] at hF
      refine am_Rr.go 2 (σ' := (28, [some (.ref 0), some (.long v1), none, some (.int v3), some (.int v4), some (.int v5), none, none], [.int v5, .long v1], x)) rfl ?_
      refine am_Rr.call (pc := 31) (ls := [some (.ref 0), some (.long v1), none, some (.int v3), some (.int v4), some (.int v5), none, none]) (st := []) rfl (S_has d v1 v5 x) ?_
      rintro _ _ ⟨rfl, (⟨rfl, b2⟩ | ⟨rfl, b2⟩)⟩
      · rw [if_pos b2] at hF
        show am_Rr _ _ (31, [some (.ref 0), some (.long v1), none, some (.int v3), some (.int v4), some (.int v5), none, none], [.int 1], x) _
        refine am_Rr.go 9 (σ' := (54, [some (.ref 0), some (.long v1), none, some (.int v3), some (.int v4), some (.int v5), none, none], [.int v5, .int (x.1 36), .ref 1, .ref 18], x)) rfl ?_
        refine am_Rr.call (pc := 57) (ls := [some (.ref 0), some (.long v1), none, some (.int v3), some (.int v4), some (.int v5), none, none]) (st := [.int (x.1 36), .ref 1, .ref 18]) rfl (S_bit (d + 1) v5 x) ?_
        rintro _ _ ⟨rfl, rfl⟩
        show am_Rr _ _ (57, [some (.ref 0), some (.long v1), none, some (.int v3), some (.int v4), some (.int v5), none, none], [.long (am_bit v5), .int (x.1 36), .ref 1, .ref 18], x) _
        refine am_Rr.call (pc := 60) (ls := [some (.ref 0), some (.long v1), none, some (.int v3), some (.int v4), some (.int v5), none, none]) (st := []) rfl (S_spread d (x.1 36) (am_bit v5) x) ?_
        rintro _ _ ⟨rfl, rfl⟩
        show am_Rr _ _ (60, [some (.ref 0), some (.long v1), none, some (.int v3), some (.int v4), some (.int v5), none, none], [], (am_spx x (x.1 36) (am_bit v5))) _
        refine am_Rr.go 5 (σ' := (69, [some (.ref 0), some (.long v1), none, some (.int v3), some (.int v4), some (.int v5), none, none], [.int 5, .ref 1, .ref 18], (am_spx x (x.1 36) (am_bit v5)))) rfl ?_
        refine am_Rr.call (pc := 72) (ls := [some (.ref 0), some (.long v1), none, some (.int v3), some (.int v4), some (.int v5), none, none]) (st := [.ref 18]) rfl (S_squaresOf_1 (d + 2) (5 : Int32) (am_spx x (x.1 36) (am_bit v5))) ?_
        rintro _ _ ⟨rfl, rfl⟩
        show am_Rr _ _ (72, [some (.ref 0), some (.long v1), none, some (.int v3), some (.int v4), some (.int v5), none, none], [.long (am_sqo ((am_spx x (x.1 36) (am_bit v5)).2.2.2 2) (5 : Int32)), .ref 18], (am_spx x (x.1 36) (am_bit v5))) _
        cases g5 : G_X6_stepsTo_18 (am_sqo ((am_spx x (x.1 36) (am_bit v5)).2.2.2 2) (5 : Int32)) (am_spx x (x.1 36) (am_bit v5)) with
        | none => rw [g5] at hF; cases hF
        | some q_ =>
          obtain ⟨r3, x4⟩ := q_
          rw [g5] at hF
          dsimp only at hF
          refine am_Rr.call (pc := 75) (ls := [some (.ref 0), some (.long v1), none, some (.int v3), some (.int v4), some (.int v5), none, none]) (st := []) rfl (A_X6_stepsTo_18 (d + 1) g5) ?_
          rintro _ _ ⟨rfl, rfl⟩
          show am_Rr _ _ (75, [some (.ref 0), some (.long v1), none, some (.int v3), some (.int v4), some (.int v5), none, none], [.int r3], x4) _
          refine am_Rr.go 3 (σ' := (if (0 : Int32) ≤ r3 then 87 else 82, [some (.ref 0), some (.long v1), none, some (.int v3), some (.int v4), some (.int v5), some (.int r3), none], [], x4)) rfl ?_
          refine am_Rr.ite (fun h6 => ?_) (fun h6 => ?_)
          · rw [if_pos h6] at hF
            refine am_Rr.go 5 (σ' := (if r3 ≤ v4 then 105 else 98, [some (.ref 0), some (.long v1), none, some (.int v3), some (.int v4), some (.int v5), some (.int r3), some (.int r3)], [], x4)) rfl ?_
            refine am_Rr.ite (fun h7 => ?_) (fun h7 => ?_)
            · rw [if_pos h7] at hF
              refine am_Rr.go 2 (σ' := (18, [some (.ref 0), some (.long v1), none, some (.int v3), some (.int v4), some (.int (v5 + 1)), some (.int r3), some (.int r3)], [], x4)) rfl ?_
              refine am_Rr.weak (ls0 := [some (.ref 0), some (.long v1), none, some (.int v3), some (.int v4), some (.int (v5 + 1)), none, none]) (by simp [am_le]) ?_
              exact ih _ _ _ _ _ hF
            · rw [if_neg h7] at hF
              refine am_Rr.go 6 (σ' := (18, [some (.ref 0), some (.long v1), none, some (.int v5), some (.int r3), some (.int (v5 + 1)), some (.int r3), some (.int r3)], [], x4)) rfl ?_
              refine am_Rr.weak (ls0 := [some (.ref 0), some (.long v1), none, some (.int v5), some (.int r3), some (.int (v5 + 1)), none, none]) (by simp [am_le]) ?_
              exact ih _ _ _ _ _ hF
          · rw [if_neg h6] at hF
            refine am_Rr.go 6 (σ' := (if (1000000 : Int32) ≤ v4 then 105 else 98, [some (.ref 0), some (.long v1), none, some (.int v3), some (.int v4), some (.int v5), some (.int r3), some (.int 1000000)], [], x4)) rfl ?_
            refine am_Rr.ite (fun h8 => ?_) (fun h8 => ?_)
            · rw [if_pos h8] at hF
              refine am_Rr.go 2 (σ' := (18, [some (.ref 0), some (.long v1), none, some (.int v3), some (.int v4), some (.int (v5 + 1)), some (.int r3), some (.int 1000000)], [], x4)) rfl ?_
              refine am_Rr.weak (ls0 := [some (.ref 0), some (.long v1), none, some (.int v3), some (.int v4), some (.int (v5 + 1)), none, none]) (by simp [am_le]) ?_
              exact ih _ _ _ _ _ hF
            · rw [if_neg h8] at hF
              refine am_Rr.go 6 (σ' := (18, [some (.ref 0), some (.long v1), none, some (.int v5), some (.int 1000000), some (.int (v5 + 1)), some (.int r3), some (.int 1000000)], [], x4)) rfl ?_
              refine am_Rr.weak (ls0 := [some (.ref 0), some (.long v1), none, some (.int v5), some (.int 1000000), some (.int (v5 + 1)), none, none]) (by simp [am_le]) ?_
              exact ih _ _ _ _ _ hF
      · rw [if_neg b2] at hF
        show am_Rr _ _ (31, [some (.ref 0), some (.long v1), none, some (.int v3), some (.int v4), some (.int v5), none, none], [.int 0], x) _
        refine am_Rr.go 4 (σ' := (18, [some (.ref 0), some (.long v1), none, some (.int v3), some (.int v4), some (.int (v5 + 1)), none, none], [], x)) rfl ?_
        exact ih _ _ _ _ _ hF
noncomputable def G_X7_firstGap  (x : am_X) : Option (Int32 × am_X) := L_X7_firstGap_18 1000 (am_sqo (x.2.2.2 2) (2 : Int32)) (-9 : Int32) (-1 : Int32) (0 : Int32) x
theorem A_X7_firstGap (d : Nat)  {x : am_X} {res : Int32 × am_X} (hF : G_X7_firstGap  x = some res) : am_T (d + 5) mX7_firstGap [.ref 0] x (fun ro y => ro = some (.int res.1) ∧ res.2 = y) := by
  refine am_T.of rfl ?_
  show am_Rr (d + 4) kX7_firstGap (0, [some (.ref 0), none, none, none, none, none, none, none], [], x) _
  unfold G_X7_firstGap at hF
  refine am_Rr.go 3 (σ' := (5, [some (.ref 0), none, none, none, none, none, none, none], [.int 2, .ref 1], x)) rfl ?_
  refine am_Rr.call (pc := 8) (ls := [some (.ref 0), none, none, none, none, none, none, none]) (st := []) rfl (S_squaresOf_1 (d + 2) (2 : Int32) x) ?_
  rintro _ _ ⟨rfl, rfl⟩
  show am_Rr _ _ (8, [some (.ref 0), none, none, none, none, none, none, none], [.long (am_sqo (x.2.2.2 2) (2 : Int32))], x) _
  refine am_Rr.go 7 (σ' := (18, [some (.ref 0), some (.long (am_sqo (x.2.2.2 2) (2 : Int32))), none, some (.int (-9)), some (.int (-1)), some (.int 0), none, none], [], x)) rfl ?_
  exact L_X7_firstGap_18_ok d res _ _ _ _ _ _ hF
noncomputable def L_X7_looksTillEmpty_20 : Nat → Int32 → Int32 → Int32 → am_X → Option (Int32 × am_X)
  | 0, _, _, _, _ => none
  | n + 1, v1, v2, v4, x => (if (200 : Int32) < v4 then some ((-9 : Int32), x) else (if (lg_cmp (x.2.1 641) 0) = 0 then some (v4, x) else L_X7_looksTillEmpty_20 n v1 v2 (v4 + 1) (am_skx x v1 v2)))
theorem L_X7_looksTillEmpty_20_ok (d : Nat) (res : Int32 × am_X) : ∀ (n : Nat) (v1 : Int32) (v2 : Int32) (v4 : Int32) (x : am_X), L_X7_looksTillEmpty_20 n v1 v2 v4 x = some res → am_Rr (d + 6) kX7_looksTillEmpty (20, [some (.ref 0), some (.int v1), some (.int v2), none, some (.int v4)], [], x) (fun ro y => ro = some (.int res.1) ∧ res.2 = y) := by
  intro n
  induction n with
  | zero =>
    intro v1 v2 v4 x hF
    cases hF
  | succ n ih =>
    intro v1 v2 v4 x hF
    rw [L_X7_looksTillEmpty_20] at hF
    refine am_Rr.go 3 (σ' := (if (200 : Int32) < v4 then 62 else 28, [some (.ref 0), some (.int v1), some (.int v2), none, some (.int v4)], [], x)) rfl ?_
    refine am_Rr.ite (fun h4 => ?_) (fun h4 => ?_)
    · rw [if_pos h4] at hF
      refine am_Rr.go 1 (σ' := (64, [some (.ref 0), some (.int v1), some (.int v2), none, some (.int v4)], [.int (-9)], x)) rfl ?_
      obtain rfl := Option.some.inj hF
      exact am_Rr.ret (v := some (.int (-9))) (x := x) rfl (by trivial) ⟨rfl, rfl⟩
    · rw [if_neg h4] at hF
      refine am_Rr.go 6 (σ' := (if (lg_cmp (x.2.1 641) 0) = 0 then 40 else 43, [some (.ref 0), some (.int v1), some (.int v2), none, some (.int v4)], [], x)) rfl ?_
      refine am_Rr.ite (fun h5 => ?_) (fun h5 => ?_)
      · rw [if_pos h5] at hF
        refine am_Rr.go 1 (σ' := (42, [some (.ref 0), some (.int v1), some (.int v2), none, some (.int v4)], [.int v4], x)) rfl ?_
        obtain rfl := Option.some.inj hF
        exact am_Rr.ret (v := some (.int v4)) (x := x) rfl (by trivial) ⟨rfl, rfl⟩
      · rw [if_neg h5] at hF
        refine am_Rr.go 6 (σ' := (53, [some (.ref 0), some (.int v1), some (.int v2), none, some (.int v4)], [.int v2, .int v1, .ref 1, .ref 20], x)) rfl ?_
        refine am_Rr.call (pc := 56) (ls := [some (.ref 0), some (.int v1), some (.int v2), none, some (.int v4)]) (st := []) rfl (S_seek d v1 v2 x) ?_
        rintro _ _ ⟨rfl, rfl⟩
        show am_Rr _ _ (56, [some (.ref 0), some (.int v1), some (.int v2), none, some (.int v4)], [], (am_skx x v1 v2)) _
        refine am_Rr.go 2 (σ' := (20, [some (.ref 0), some (.int v1), some (.int v2), none, some (.int (v4 + 1))], [], (am_skx x v1 v2))) rfl ?_
        exact ih _ _ _ _ hF
noncomputable def G_X7_looksTillEmpty (a : Int32) (b : Int32) (e : Int32) (x : am_X) : Option (Int32 × am_X) := (match G_X7_reachedBy e x with | none => none | some (r1, x2) => L_X7_looksTillEmpty_20 1000 a b (0 : Int32) (am_bgx x2 r1 e))
theorem A_X7_looksTillEmpty (d : Nat) {a : Int32} {b : Int32} {e : Int32} {x : am_X} {res : Int32 × am_X} (hF : G_X7_looksTillEmpty a b e x = some res) : am_T (d + 7) mX7_looksTillEmpty [.ref 0, .int a, .int b, .int e] x (fun ro y => ro = some (.int res.1) ∧ res.2 = y) := by
  refine am_T.of rfl ?_
  show am_Rr (d + 6) kX7_looksTillEmpty (0, [some (.ref 0), some (.int a), some (.int b), some (.int e), none], [], x) _
  unfold G_X7_looksTillEmpty at hF
  refine am_Rr.go 6 (σ' := (10, [some (.ref 0), some (.int a), some (.int b), some (.int e), none], [.int e, .ref 0, .ref 1, .ref 20], x)) rfl ?_
  cases g3 : G_X7_reachedBy e x with
  | none => rw [g3] at hF; cases hF
  | some q_ =>
    obtain ⟨r1, x2⟩ := q_
    rw [g3] at hF
    dsimp only at hF
    refine am_Rr.call (pc := 13) (ls := [some (.ref 0), some (.int a), some (.int b), some (.int e), none]) (st := [.ref 1, .ref 20]) rfl (A_X7_reachedBy (d + 1) g3) ?_
    rintro _ _ ⟨rfl, rfl⟩
    show am_Rr _ _ (13, [some (.ref 0), some (.int a), some (.int b), some (.int e), none], [.long r1, .ref 1, .ref 20], x2) _
    refine am_Rr.go 1 (σ' := (14, [some (.ref 0), some (.int a), some (.int b), some (.int e), none], [.int e, .long r1, .ref 1, .ref 20], x2)) rfl ?_
    refine am_Rr.call (pc := 17) (ls := [some (.ref 0), some (.int a), some (.int b), some (.int e), none]) (st := []) rfl (S_begin (d + 2) r1 e x2) ?_
    rintro _ _ ⟨rfl, rfl⟩
    show am_Rr _ _ (17, [some (.ref 0), some (.int a), some (.int b), some (.int e), none], [], (am_bgx x2 r1 e)) _
    refine am_Rr.go 2 (σ' := (20, [some (.ref 0), some (.int a), some (.int b), some (.int e), some (.int 0)], [], (am_bgx x2 r1 e))) rfl ?_
    refine am_Rr.weak (ls0 := [some (.ref 0), some (.int a), some (.int b), none, some (.int 0)]) (by simp [am_le]) ?_
    exact L_X7_looksTillEmpty_20_ok d res _ _ _ _ _ hF
noncomputable def L_X7_lookOften_20 : Nat → Int32 → Int32 → Int32 → am_X → Option (Unit × am_X)
  | 0, _, _, _, _ => none
  | n + 1, v1, v3, v4, x => (if v3 ≤ v4 then some ((), x) else L_X7_lookOften_20 n v1 v3 (v4 + 1) (am_skx x v1 (am_ifs (x.1 35) (x.2.2.1 3) v1 0)))
theorem L_X7_lookOften_20_ok (d : Nat) (res : Unit × am_X) : ∀ (n : Nat) (v1 : Int32) (v3 : Int32) (v4 : Int32) (x : am_X), L_X7_lookOften_20 n v1 v3 v4 x = some res → am_Rr (d + 6) kX7_lookOften (20, [some (.ref 0), some (.int v1), none, some (.int v3), some (.int v4)], [], x) (fun ro y => ro = none ∧ res.2 = y) := by
  intro n
  induction n with
  | zero =>
    intro v1 v3 v4 x hF
    cases hF
  | succ n ih =>
    intro v1 v3 v4 x hF
    rw [L_X7_lookOften_20] at hF
    refine am_Rr.go 3 (σ' := (if v3 ≤ v4 then 52 else 26, [some (.ref 0), some (.int v1), none, some (.int v3), some (.int v4)], [], x)) rfl ?_
    refine am_Rr.ite (fun h4 => ?_) (fun h4 => ?_)
    · rw [if_pos h4] at hF
      obtain rfl := Option.some.inj hF
      exact am_Rr.ret (v := none) (x := x) rfl (by trivial) ⟨rfl, rfl⟩
    · rw [if_neg h4] at hF
      refine am_Rr.go 8 (σ' := (40, [some (.ref 0), some (.int v1), none, some (.int v3), some (.int v4)], [.int v1, .ref 1, .int v1, .ref 1, .ref 20], x)) rfl ?_
      refine am_Rr.call (pc := 43) (ls := [some (.ref 0), some (.int v1), none, some (.int v3), some (.int v4)]) (st := [.int v1, .ref 1, .ref 20]) rfl (S_kindOfSeeker_1 (d + 3) v1 x) ?_
      rintro _ _ ⟨rfl, rfl⟩
      show am_Rr _ _ (43, [some (.ref 0), some (.int v1), none, some (.int v3), some (.int v4)], [.int (am_ifs (x.1 35) (x.2.2.1 3) v1 0), .int v1, .ref 1, .ref 20], x) _
      refine am_Rr.call (pc := 46) (ls := [some (.ref 0), some (.int v1), none, some (.int v3), some (.int v4)]) (st := []) rfl (S_seek d v1 (am_ifs (x.1 35) (x.2.2.1 3) v1 0) x) ?_
      rintro _ _ ⟨rfl, rfl⟩
      show am_Rr _ _ (46, [some (.ref 0), some (.int v1), none, some (.int v3), some (.int v4)], [], (am_skx x v1 (am_ifs (x.1 35) (x.2.2.1 3) v1 0))) _
      refine am_Rr.go 2 (σ' := (20, [some (.ref 0), some (.int v1), none, some (.int v3), some (.int (v4 + 1))], [], (am_skx x v1 (am_ifs (x.1 35) (x.2.2.1 3) v1 0)))) rfl ?_
      exact ih _ _ _ _ hF
noncomputable def G_X7_lookOften (a : Int32) (b : Int32) (e : Int32) (x : am_X) : Option (Unit × am_X) := (match G_X7_reachedBy b x with | none => none | some (r1, x2) => L_X7_lookOften_20 1000 a e (0 : Int32) (am_bgx x2 r1 b))
theorem A_X7_lookOften (d : Nat) {a : Int32} {b : Int32} {e : Int32} {x : am_X} {res : Unit × am_X} (hF : G_X7_lookOften a b e x = some res) : am_T (d + 7) mX7_lookOften [.ref 0, .int a, .int b, .int e] x (fun ro y => ro = none ∧ res.2 = y) := by
  refine am_T.of rfl ?_
  show am_Rr (d + 6) kX7_lookOften (0, [some (.ref 0), some (.int a), some (.int b), some (.int e), none], [], x) _
  unfold G_X7_lookOften at hF
  refine am_Rr.go 6 (σ' := (10, [some (.ref 0), some (.int a), some (.int b), some (.int e), none], [.int b, .ref 0, .ref 1, .ref 20], x)) rfl ?_
  cases g3 : G_X7_reachedBy b x with
  | none => rw [g3] at hF; cases hF
  | some q_ =>
    obtain ⟨r1, x2⟩ := q_
    rw [g3] at hF
    dsimp only at hF
    refine am_Rr.call (pc := 13) (ls := [some (.ref 0), some (.int a), some (.int b), some (.int e), none]) (st := [.ref 1, .ref 20]) rfl (A_X7_reachedBy (d + 1) g3) ?_
    rintro _ _ ⟨rfl, rfl⟩
    show am_Rr _ _ (13, [some (.ref 0), some (.int a), some (.int b), some (.int e), none], [.long r1, .ref 1, .ref 20], x2) _
    refine am_Rr.go 1 (σ' := (14, [some (.ref 0), some (.int a), some (.int b), some (.int e), none], [.int b, .long r1, .ref 1, .ref 20], x2)) rfl ?_
    refine am_Rr.call (pc := 17) (ls := [some (.ref 0), some (.int a), some (.int b), some (.int e), none]) (st := []) rfl (S_begin (d + 2) r1 b x2) ?_
    rintro _ _ ⟨rfl, rfl⟩
    show am_Rr _ _ (17, [some (.ref 0), some (.int a), some (.int b), some (.int e), none], [], (am_bgx x2 r1 b)) _
    refine am_Rr.go 2 (σ' := (20, [some (.ref 0), some (.int a), some (.int b), some (.int e), some (.int 0)], [], (am_bgx x2 r1 b))) rfl ?_
    refine am_Rr.weak (ls0 := [some (.ref 0), some (.int a), none, some (.int e), some (.int 0)]) (by simp [am_le]) ?_
    exact L_X7_lookOften_20_ok d res _ _ _ _ _ hF
noncomputable def L_X7_looksOfAll_21 : Nat → Int32 → Int32 → am_X → Option (Int32 × am_X)
  | 0, _, _, _ => none
  | n + 1, v2, v3, x => (if (200 : Int32) < v3 then some ((-9 : Int32), x) else (if (lg_cmp (x.2.1 641) 0) = 0 then some (v3, x) else (if am_hs ((am_skx x v2 (am_ifs (x.1 35) (x.2.2.1 3) v2 0)).1 35) (v2 + 1) then L_X7_looksOfAll_21 n (v2 + 1) (v3 + 1) (am_skx x v2 (am_ifs (x.1 35) (x.2.2.1 3) v2 0)) else L_X7_looksOfAll_21 n (0 : Int32) (v3 + 1) (am_skx x v2 (am_ifs (x.1 35) (x.2.2.1 3) v2 0)))))
theorem L_X7_looksOfAll_21_ok (d : Nat) (res : Int32 × am_X) : ∀ (n : Nat) (v2 : Int32) (v3 : Int32) (x : am_X), L_X7_looksOfAll_21 n v2 v3 x = some res → am_Rr (d + 6) kX7_looksOfAll (21, [some (.ref 0), none, some (.int v2), some (.int v3)], [], x) (fun ro y => ro = some (.int res.1) ∧ res.2 = y) := by
  intro n
  induction n with
  | zero =>
    intro v2 v3 x hF
    cases hF
  | succ n ih =>
    intro v2 v3 x hF
    rw [L_X7_looksOfAll_21] at hF
    refine am_Rr.go 3 (σ' := (if (200 : Int32) < v3 then 89 else 28, [some (.ref 0), none, some (.int v2), some (.int v3)], [], x)) rfl ?_
    refine am_Rr.ite (fun h4 => ?_) (fun h4 => ?_)
    · rw [if_pos h4] at hF
      refine am_Rr.go 1 (σ' := (91, [some (.ref 0), none, some (.int v2), some (.int v3)], [.int (-9)], x)) rfl ?_
      obtain rfl := Option.some.inj hF
      exact am_Rr.ret (v := some (.int (-9))) (x := x) rfl (by trivial) ⟨rfl, rfl⟩
    · rw [if_neg h4] at hF
      refine am_Rr.go 6 (σ' := (if (lg_cmp (x.2.1 641) 0) = 0 then 40 else 42, [some (.ref 0), none, some (.int v2), some (.int v3)], [], x)) rfl ?_
      refine am_Rr.ite (fun h5 => ?_) (fun h5 => ?_)
      · rw [if_pos h5] at hF
        refine am_Rr.go 1 (σ' := (41, [some (.ref 0), none, some (.int v2), some (.int v3)], [.int v3], x)) rfl ?_
        obtain rfl := Option.some.inj hF
        exact am_Rr.ret (v := some (.int v3)) (x := x) rfl (by trivial) ⟨rfl, rfl⟩
      · rw [if_neg h5] at hF
        refine am_Rr.go 8 (σ' := (56, [some (.ref 0), none, some (.int v2), some (.int v3)], [.int v2, .ref 1, .int v2, .ref 1, .ref 20], x)) rfl ?_
        refine am_Rr.call (pc := 59) (ls := [some (.ref 0), none, some (.int v2), some (.int v3)]) (st := [.int v2, .ref 1, .ref 20]) rfl (S_kindOfSeeker_1 (d + 3) v2 x) ?_
        rintro _ _ ⟨rfl, rfl⟩
        show am_Rr _ _ (59, [some (.ref 0), none, some (.int v2), some (.int v3)], [.int (am_ifs (x.1 35) (x.2.2.1 3) v2 0), .int v2, .ref 1, .ref 20], x) _
        refine am_Rr.call (pc := 62) (ls := [some (.ref 0), none, some (.int v2), some (.int v3)]) (st := []) rfl (S_seek d v2 (am_ifs (x.1 35) (x.2.2.1 3) v2 0) x) ?_
        rintro _ _ ⟨rfl, rfl⟩
        show am_Rr _ _ (62, [some (.ref 0), none, some (.int v2), some (.int v3)], [], (am_skx x v2 (am_ifs (x.1 35) (x.2.2.1 3) v2 0))) _
        refine am_Rr.go 5 (σ' := (69, [some (.ref 0), none, some (.int v2), some (.int v3)], [.int (v2 + 1), .ref 1], (am_skx x v2 (am_ifs (x.1 35) (x.2.2.1 3) v2 0)))) rfl ?_
        refine am_Rr.call (pc := 72) (ls := [some (.ref 0), none, some (.int v2), some (.int v3)]) (st := []) rfl (S_hasSeeker_1 (d + 4) (v2 + 1) (am_skx x v2 (am_ifs (x.1 35) (x.2.2.1 3) v2 0))) ?_
        rintro _ _ ⟨rfl, (⟨rfl, b6⟩ | ⟨rfl, b6⟩)⟩
        · rw [if_pos b6] at hF
          show am_Rr _ _ (72, [some (.ref 0), none, some (.int v2), some (.int v3)], [.int 1], (am_skx x v2 (am_ifs (x.1 35) (x.2.2.1 3) v2 0))) _
          refine am_Rr.go 8 (σ' := (21, [some (.ref 0), none, some (.int (v2 + 1)), some (.int (v3 + 1))], [], (am_skx x v2 (am_ifs (x.1 35) (x.2.2.1 3) v2 0)))) rfl ?_
          exact ih _ _ _ hF
        · rw [if_neg b6] at hF
          show am_Rr _ _ (72, [some (.ref 0), none, some (.int v2), some (.int v3)], [.int 0], (am_skx x v2 (am_ifs (x.1 35) (x.2.2.1 3) v2 0))) _
          refine am_Rr.go 5 (σ' := (21, [some (.ref 0), none, some (.int 0), some (.int (v3 + 1))], [], (am_skx x v2 (am_ifs (x.1 35) (x.2.2.1 3) v2 0)))) rfl ?_
          exact ih _ _ _ hF
noncomputable def G_X7_looksOfAll (a : Int32) (x : am_X) : Option (Int32 × am_X) := (match G_X7_reachedBy a x with | none => none | some (r1, x2) => L_X7_looksOfAll_21 1000 (0 : Int32) (0 : Int32) (am_bgx x2 r1 a))
theorem A_X7_looksOfAll (d : Nat) {a : Int32} {x : am_X} {res : Int32 × am_X} (hF : G_X7_looksOfAll a x = some res) : am_T (d + 7) mX7_looksOfAll [.ref 0, .int a] x (fun ro y => ro = some (.int res.1) ∧ res.2 = y) := by
  refine am_T.of rfl ?_
  show am_Rr (d + 6) kX7_looksOfAll (0, [some (.ref 0), some (.int a), none, none], [], x) _
  unfold G_X7_looksOfAll at hF
  refine am_Rr.go 6 (σ' := (10, [some (.ref 0), some (.int a), none, none], [.int a, .ref 0, .ref 1, .ref 20], x)) rfl ?_
  cases g3 : G_X7_reachedBy a x with
  | none => rw [g3] at hF; cases hF
  | some q_ =>
    obtain ⟨r1, x2⟩ := q_
    rw [g3] at hF
    dsimp only at hF
    refine am_Rr.call (pc := 13) (ls := [some (.ref 0), some (.int a), none, none]) (st := [.ref 1, .ref 20]) rfl (A_X7_reachedBy (d + 1) g3) ?_
    rintro _ _ ⟨rfl, rfl⟩
    show am_Rr _ _ (13, [some (.ref 0), some (.int a), none, none], [.long r1, .ref 1, .ref 20], x2) _
    refine am_Rr.go 1 (σ' := (14, [some (.ref 0), some (.int a), none, none], [.int a, .long r1, .ref 1, .ref 20], x2)) rfl ?_
    refine am_Rr.call (pc := 17) (ls := [some (.ref 0), some (.int a), none, none]) (st := []) rfl (S_begin (d + 2) r1 a x2) ?_
    rintro _ _ ⟨rfl, rfl⟩
    show am_Rr _ _ (17, [some (.ref 0), some (.int a), none, none], [], (am_bgx x2 r1 a)) _
    refine am_Rr.go 4 (σ' := (21, [some (.ref 0), some (.int a), some (.int 0), some (.int 0)], [], (am_bgx x2 r1 a))) rfl ?_
    refine am_Rr.weak (ls0 := [some (.ref 0), none, some (.int 0), some (.int 0)]) (by simp [am_le]) ?_
    exact L_X7_looksOfAll_21_ok d res _ _ _ _ hF
noncomputable def G_X7_search (a : Int32) (b : Int32) (x : am_X) : Option (Int32 × am_X) := (match G_X7_wrongSearch a b (0 : Int32) x with | none => none | some (r1, x2) => (if (0 : Int32) ≤ r1 then (match G_X7_looksTillEmpty a (am_ifs (x2.1 35) (x2.2.2.1 3) a 0) b x2 with | none => none | some (r5, x6) => some (r5, x6)) else (match G_X7_refused r1 x2 with | none => none | some (r8, x9) => some (r8, x9))))
theorem A_X7_search (d : Nat) {a : Int32} {b : Int32} {x : am_X} {res : Int32 × am_X} (hF : G_X7_search a b x = some res) : am_T (d + 8) mX7_search [.ref 0, .int a, .int b] x (fun ro y => ro = some (.int res.1) ∧ res.2 = y) := by
  refine am_T.of rfl ?_
  show am_Rr (d + 7) kX7_search (0, [some (.ref 0), some (.int a), some (.int b), none], [], x) _
  unfold G_X7_search at hF
  refine am_Rr.go 4 (σ' := (4, [some (.ref 0), some (.int a), some (.int b), none], [.int 0, .int b, .int a, .ref 0], x)) rfl ?_
  cases g3 : G_X7_wrongSearch a b (0 : Int32) x with
  | none => rw [g3] at hF; cases hF
  | some q_ =>
    obtain ⟨r1, x2⟩ := q_
    rw [g3] at hF
    dsimp only at hF
    refine am_Rr.call (pc := 7) (ls := [some (.ref 0), some (.int a), some (.int b), none]) (st := []) rfl (A_X7_wrongSearch (d + 4) g3) ?_
    rintro _ _ ⟨rfl, rfl⟩
    show am_Rr _ _ (7, [some (.ref 0), some (.int a), some (.int b), none], [.int r1], x2) _
    refine am_Rr.go 3 (σ' := (if (0 : Int32) ≤ r1 then 18 else 12, [some (.ref 0), some (.int a), some (.int b), some (.int r1)], [], x2)) rfl ?_
    refine am_Rr.ite (fun h4 => ?_) (fun h4 => ?_)
    · rw [if_pos h4] at hF
      refine am_Rr.go 5 (σ' := (25, [some (.ref 0), some (.int a), some (.int b), some (.int r1)], [.int a, .ref 1, .int a, .ref 0], x2)) rfl ?_
      refine am_Rr.call (pc := 28) (ls := [some (.ref 0), some (.int a), some (.int b), some (.int r1)]) (st := [.int a, .ref 0]) rfl (S_kindOfSeeker_1 (d + 4) a x2) ?_
      rintro _ _ ⟨rfl, rfl⟩
      show am_Rr _ _ (28, [some (.ref 0), some (.int a), some (.int b), some (.int r1)], [.int (am_ifs (x2.1 35) (x2.2.2.1 3) a 0), .int a, .ref 0], x2) _
      refine am_Rr.go 1 (σ' := (29, [some (.ref 0), some (.int a), some (.int b), some (.int r1)], [.int b, .int (am_ifs (x2.1 35) (x2.2.2.1 3) a 0), .int a, .ref 0], x2)) rfl ?_
      cases g7 : G_X7_looksTillEmpty a (am_ifs (x2.1 35) (x2.2.2.1 3) a 0) b x2 with
      | none => rw [g7] at hF; cases hF
      | some q_ =>
        obtain ⟨r5, x6⟩ := q_
        rw [g7] at hF
        dsimp only at hF
        refine am_Rr.call (pc := 32) (ls := [some (.ref 0), some (.int a), some (.int b), some (.int r1)]) (st := []) rfl (A_X7_looksTillEmpty d g7) ?_
        rintro _ _ ⟨rfl, rfl⟩
        show am_Rr _ _ (32, [some (.ref 0), some (.int a), some (.int b), some (.int r1)], [.int r5], x6) _
        obtain rfl := Option.some.inj hF
        exact am_Rr.ret (v := some (.int r5)) (x := x6) rfl (by trivial) ⟨rfl, rfl⟩
    · rw [if_neg h4] at hF
      refine am_Rr.go 2 (σ' := (14, [some (.ref 0), some (.int a), some (.int b), some (.int r1)], [.int r1, .ref 0], x2)) rfl ?_
      cases g10 : G_X7_refused r1 x2 with
      | none => rw [g10] at hF; cases hF
      | some q_ =>
        obtain ⟨r8, x9⟩ := q_
        rw [g10] at hF
        dsimp only at hF
        refine am_Rr.call (pc := 17) (ls := [some (.ref 0), some (.int a), some (.int b), some (.int r1)]) (st := []) rfl (A_X7_refused (d + 5) g10) ?_
        rintro _ _ ⟨rfl, rfl⟩
        show am_Rr _ _ (17, [some (.ref 0), some (.int a), some (.int b), some (.int r1)], [.int r8], x9) _
        obtain rfl := Option.some.inj hF
        exact am_Rr.ret (v := some (.int r8)) (x := x9) rfl (by trivial) ⟨rfl, rfl⟩
noncomputable def G_X7_left (a : Int32) (b : Int32) (e : Int32) (x : am_X) : Option (Int32 × am_X) := (match G_X7_wrongSearch a b e x with | none => none | some (r1, x2) => (if (0 : Int32) ≤ r1 then (match G_X7_lookOften a b e x2 with | none => none | some (_, x6) => some ((am_bc (x6.2.1 641)), x6)) else (match G_X7_refused r1 x2 with | none => none | some (r8, x9) => some (r8, x9))))
theorem A_X7_left (d : Nat) {a : Int32} {b : Int32} {e : Int32} {x : am_X} {res : Int32 × am_X} (hF : G_X7_left a b e x = some res) : am_T (d + 8) mX7_left [.ref 0, .int a, .int b, .int e] x (fun ro y => ro = some (.int res.1) ∧ res.2 = y) := by
  refine am_T.of rfl ?_
  show am_Rr (d + 7) kX7_left (0, [some (.ref 0), some (.int a), some (.int b), some (.int e), none], [], x) _
  unfold G_X7_left at hF
  refine am_Rr.go 4 (σ' := (4, [some (.ref 0), some (.int a), some (.int b), some (.int e), none], [.int e, .int b, .int a, .ref 0], x)) rfl ?_
  cases g3 : G_X7_wrongSearch a b e x with
  | none => rw [g3] at hF; cases hF
  | some q_ =>
    obtain ⟨r1, x2⟩ := q_
    rw [g3] at hF
    dsimp only at hF
    refine am_Rr.call (pc := 7) (ls := [some (.ref 0), some (.int a), some (.int b), some (.int e), none]) (st := []) rfl (A_X7_wrongSearch (d + 4) g3) ?_
    rintro _ _ ⟨rfl, rfl⟩
    show am_Rr _ _ (7, [some (.ref 0), some (.int a), some (.int b), some (.int e), none], [.int r1], x2) _
    refine am_Rr.go 3 (σ' := (if (0 : Int32) ≤ r1 then 21 else 14, [some (.ref 0), some (.int a), some (.int b), some (.int e), some (.int r1)], [], x2)) rfl ?_
    refine am_Rr.ite (fun h4 => ?_) (fun h4 => ?_)
    · rw [if_pos h4] at hF
      refine am_Rr.go 4 (σ' := (25, [some (.ref 0), some (.int a), some (.int b), some (.int e), some (.int r1)], [.int e, .int b, .int a, .ref 0], x2)) rfl ?_
      cases g7 : G_X7_lookOften a b e x2 with
      | none => rw [g7] at hF; cases hF
      | some q_ =>
        obtain ⟨u_, x6⟩ := q_
        rw [g7] at hF
        dsimp only at hF
        refine am_Rr.call (pc := 28) (ls := [some (.ref 0), some (.int a), some (.int b), some (.int e), some (.int r1)]) (st := []) rfl (A_X7_lookOften d g7) ?_
        rintro _ _ ⟨rfl, rfl⟩
        show am_Rr _ _ (28, [some (.ref 0), some (.int a), some (.int b), some (.int e), some (.int r1)], [], x6) _
        refine am_Rr.go 3 (σ' := (35, [some (.ref 0), some (.int a), some (.int b), some (.int e), some (.int r1)], [.long (x6.2.1 641)], x6)) rfl ?_
        refine am_Rr.call (pc := 38) (ls := [some (.ref 0), some (.int a), some (.int b), some (.int e), some (.int r1)]) (st := []) rfl (S_bitCountJ (d + 5) (x6.2.1 641) x6) ?_
        rintro _ _ ⟨rfl, rfl⟩
        show am_Rr _ _ (38, [some (.ref 0), some (.int a), some (.int b), some (.int e), some (.int r1)], [.int (am_bc (x6.2.1 641))], x6) _
        obtain rfl := Option.some.inj hF
        exact am_Rr.ret (v := some (.int (am_bc (x6.2.1 641)))) (x := x6) rfl (by trivial) ⟨rfl, rfl⟩
    · rw [if_neg h4] at hF
      refine am_Rr.go 2 (σ' := (17, [some (.ref 0), some (.int a), some (.int b), some (.int e), some (.int r1)], [.int r1, .ref 0], x2)) rfl ?_
      cases g10 : G_X7_refused r1 x2 with
      | none => rw [g10] at hF; cases hF
      | some q_ =>
        obtain ⟨r8, x9⟩ := q_
        rw [g10] at hF
        dsimp only at hF
        refine am_Rr.call (pc := 20) (ls := [some (.ref 0), some (.int a), some (.int b), some (.int e), some (.int r1)]) (st := []) rfl (A_X7_refused (d + 5) g10) ?_
        rintro _ _ ⟨rfl, rfl⟩
        show am_Rr _ _ (20, [some (.ref 0), some (.int a), some (.int b), some (.int e), some (.int r1)], [.int r8], x9) _
        obtain rfl := Option.some.inj hF
        exact am_Rr.ret (v := some (.int r8)) (x := x9) rfl (by trivial) ⟨rfl, rfl⟩
noncomputable def G_X7_looksAt (a : Int32) (b : Int32) (e : Int32) (x : am_X) : Option (Int32 × am_X) := (match G_X7_wrongSearch a b e x with | none => none | some (r1, x2) => (if (0 : Int32) ≤ r1 then (match G_X7_lookOften a b e x2 with | none => none | some (_, x6) => some ((am_cho (x6.2.2.2 21) (x6.2.1 641) (am_sqo (x6.2.2.2 2) 5) a (am_ifs (x6.1 35) (x6.2.2.1 3) a 0)), x6)) else (match G_X7_refused r1 x2 with | none => none | some (r8, x9) => some (r8, x9))))
theorem A_X7_looksAt (d : Nat) {a : Int32} {b : Int32} {e : Int32} {x : am_X} {res : Int32 × am_X} (hF : G_X7_looksAt a b e x = some res) : am_T (d + 8) mX7_looksAt [.ref 0, .int a, .int b, .int e] x (fun ro y => ro = some (.int res.1) ∧ res.2 = y) := by
  refine am_T.of rfl ?_
  show am_Rr (d + 7) kX7_looksAt (0, [some (.ref 0), some (.int a), some (.int b), some (.int e), none], [], x) _
  unfold G_X7_looksAt at hF
  refine am_Rr.go 4 (σ' := (4, [some (.ref 0), some (.int a), some (.int b), some (.int e), none], [.int e, .int b, .int a, .ref 0], x)) rfl ?_
  cases g3 : G_X7_wrongSearch a b e x with
  | none => rw [g3] at hF; cases hF
  | some q_ =>
    obtain ⟨r1, x2⟩ := q_
    rw [g3] at hF
    dsimp only at hF
    refine am_Rr.call (pc := 7) (ls := [some (.ref 0), some (.int a), some (.int b), some (.int e), none]) (st := []) rfl (A_X7_wrongSearch (d + 4) g3) ?_
    rintro _ _ ⟨rfl, rfl⟩
    show am_Rr _ _ (7, [some (.ref 0), some (.int a), some (.int b), some (.int e), none], [.int r1], x2) _
    refine am_Rr.go 3 (σ' := (if (0 : Int32) ≤ r1 then 21 else 14, [some (.ref 0), some (.int a), some (.int b), some (.int e), some (.int r1)], [], x2)) rfl ?_
    refine am_Rr.ite (fun h4 => ?_) (fun h4 => ?_)
    · rw [if_pos h4] at hF
      refine am_Rr.go 4 (σ' := (25, [some (.ref 0), some (.int a), some (.int b), some (.int e), some (.int r1)], [.int e, .int b, .int a, .ref 0], x2)) rfl ?_
      cases g7 : G_X7_lookOften a b e x2 with
      | none => rw [g7] at hF; cases hF
      | some q_ =>
        obtain ⟨u_, x6⟩ := q_
        rw [g7] at hF
        dsimp only at hF
        refine am_Rr.call (pc := 28) (ls := [some (.ref 0), some (.int a), some (.int b), some (.int e), some (.int r1)]) (st := []) rfl (A_X7_lookOften d g7) ?_
        rintro _ _ ⟨rfl, rfl⟩
        show am_Rr _ _ (28, [some (.ref 0), some (.int a), some (.int b), some (.int e), some (.int r1)], [], x6) _
        refine am_Rr.go 8 (σ' := (42, [some (.ref 0), some (.int a), some (.int b), some (.int e), some (.int r1)], [.int a, .ref 1, .int a, .ref 1, .ref 20], x6)) rfl ?_
        refine am_Rr.call (pc := 45) (ls := [some (.ref 0), some (.int a), some (.int b), some (.int e), some (.int r1)]) (st := [.int a, .ref 1, .ref 20]) rfl (S_kindOfSeeker_1 (d + 4) a x6) ?_
        rintro _ _ ⟨rfl, rfl⟩
        show am_Rr _ _ (45, [some (.ref 0), some (.int a), some (.int b), some (.int e), some (.int r1)], [.int (am_ifs (x6.1 35) (x6.2.2.1 3) a 0), .int a, .ref 1, .ref 20], x6) _
        refine am_Rr.call (pc := 48) (ls := [some (.ref 0), some (.int a), some (.int b), some (.int e), some (.int r1)]) (st := []) rfl (S_choice (d + 2) a (am_ifs (x6.1 35) (x6.2.2.1 3) a 0) x6) ?_
        rintro _ _ ⟨rfl, rfl⟩
        show am_Rr _ _ (48, [some (.ref 0), some (.int a), some (.int b), some (.int e), some (.int r1)], [.int (am_cho (x6.2.2.2 21) (x6.2.1 641) (am_sqo (x6.2.2.2 2) 5) a (am_ifs (x6.1 35) (x6.2.2.1 3) a 0))], x6) _
        obtain rfl := Option.some.inj hF
        exact am_Rr.ret (v := some (.int (am_cho (x6.2.2.2 21) (x6.2.1 641) (am_sqo (x6.2.2.2 2) 5) a (am_ifs (x6.1 35) (x6.2.2.1 3) a 0)))) (x := x6) rfl (by trivial) ⟨rfl, rfl⟩
    · rw [if_neg h4] at hF
      refine am_Rr.go 2 (σ' := (17, [some (.ref 0), some (.int a), some (.int b), some (.int e), some (.int r1)], [.int r1, .ref 0], x2)) rfl ?_
      cases g10 : G_X7_refused r1 x2 with
      | none => rw [g10] at hF; cases hF
      | some q_ =>
        obtain ⟨r8, x9⟩ := q_
        rw [g10] at hF
        dsimp only at hF
        refine am_Rr.call (pc := 20) (ls := [some (.ref 0), some (.int a), some (.int b), some (.int e), some (.int r1)]) (st := []) rfl (A_X7_refused (d + 5) g10) ?_
        rintro _ _ ⟨rfl, rfl⟩
        show am_Rr _ _ (20, [some (.ref 0), some (.int a), some (.int b), some (.int e), some (.int r1)], [.int r8], x9) _
        obtain rfl := Option.some.inj hF
        exact am_Rr.ret (v := some (.int r8)) (x := x9) rfl (by trivial) ⟨rfl, rfl⟩
noncomputable def L_X7_bestSeeker_30 : Nat → Int32 → Int32 → Int32 → Int32 → Int32 → am_X → Option (Int32 × am_X)
  | 0, _, _, _, _, _, _ => none
  | n + 1, v1, v2, v4, v5, v6, x => (if (5 : Int32) ≤ v6 then some (v4, x) else (match G_X7_looksTillEmpty v1 v6 v2 x with | none => none | some (r6, x7) => (if r6 < 0 then L_X7_bestSeeker_30 n v1 v2 v4 v5 (v6 + 1) x7 else (if v5 ≤ r6 then L_X7_bestSeeker_30 n v1 v2 v4 v5 (v6 + 1) x7 else L_X7_bestSeeker_30 n v1 v2 v6 r6 (v6 + 1) x7))))
theorem L_X7_bestSeeker_30_ok (d : Nat) (res : Int32 × am_X) : ∀ (n : Nat) (v1 : Int32) (v2 : Int32) (v4 : Int32) (v5 : Int32) (v6 : Int32) (x : am_X), L_X7_bestSeeker_30 n v1 v2 v4 v5 v6 x = some res → am_Rr (d + 7) kX7_bestSeeker (30, [some (.ref 0), some (.int v1), some (.int v2), none, some (.int v4), some (.int v5), some (.int v6), none], [], x) (fun ro y => ro = some (.int res.1) ∧ res.2 = y) := by
  intro n
  induction n with
  | zero =>
    intro v1 v2 v4 v5 v6 x hF
    cases hF
  | succ n ih =>
    intro v1 v2 v4 v5 v6 x hF
    rw [L_X7_bestSeeker_30] at hF
    refine am_Rr.go 3 (σ' := (if (5 : Int32) ≤ v6 then 72 else 36, [some (.ref 0), some (.int v1), some (.int v2), none, some (.int v4), some (.int v5), some (.int v6), none], [], x)) rfl ?_
    refine am_Rr.ite (fun h5 => ?_) (fun h5 => ?_)
    · rw [if_pos h5] at hF
      refine am_Rr.go 1 (σ' := (74, [some (.ref 0), some (.int v1), some (.int v2), none, some (.int v4), some (.int v5), some (.int v6), none], [.int v4], x)) rfl ?_
      obtain rfl := Option.some.inj hF
      exact am_Rr.ret (v := some (.int v4)) (x := x) rfl (by trivial) ⟨rfl, rfl⟩
    · rw [if_neg h5] at hF
      refine am_Rr.go 4 (σ' := (41, [some (.ref 0), some (.int v1), some (.int v2), none, some (.int v4), some (.int v5), some (.int v6), none], [.int v2, .int v6, .int v1, .ref 0], x)) rfl ?_
      cases g8 : G_X7_looksTillEmpty v1 v6 v2 x with
      | none => rw [g8] at hF; cases hF
      | some q_ =>
        obtain ⟨r6, x7⟩ := q_
        rw [g8] at hF
        dsimp only at hF
        refine am_Rr.call (pc := 44) (ls := [some (.ref 0), some (.int v1), some (.int v2), none, some (.int v4), some (.int v5), some (.int v6), none]) (st := []) rfl (A_X7_looksTillEmpty d g8) ?_
        rintro _ _ ⟨rfl, rfl⟩
        show am_Rr _ _ (44, [some (.ref 0), some (.int v1), some (.int v2), none, some (.int v4), some (.int v5), some (.int v6), none], [.int r6], x7) _
        refine am_Rr.go 3 (σ' := (if r6 < 0 then 66 else 51, [some (.ref 0), some (.int v1), some (.int v2), none, some (.int v4), some (.int v5), some (.int v6), some (.int r6)], [], x7)) rfl ?_
        refine am_Rr.ite (fun h9 => ?_) (fun h9 => ?_)
        · rw [if_pos h9] at hF
          refine am_Rr.go 2 (σ' := (30, [some (.ref 0), some (.int v1), some (.int v2), none, some (.int v4), some (.int v5), some (.int (v6 + 1)), some (.int r6)], [], x7)) rfl ?_
          refine am_Rr.weak (ls0 := [some (.ref 0), some (.int v1), some (.int v2), none, some (.int v4), some (.int v5), some (.int (v6 + 1)), none]) (by simp [am_le]) ?_
          exact ih _ _ _ _ _ _ hF
        · rw [if_neg h9] at hF
          refine am_Rr.go 3 (σ' := (if v5 ≤ r6 then 66 else 58, [some (.ref 0), some (.int v1), some (.int v2), none, some (.int v4), some (.int v5), some (.int v6), some (.int r6)], [], x7)) rfl ?_
          refine am_Rr.ite (fun h10 => ?_) (fun h10 => ?_)
          · rw [if_pos h10] at hF
            refine am_Rr.go 2 (σ' := (30, [some (.ref 0), some (.int v1), some (.int v2), none, some (.int v4), some (.int v5), some (.int (v6 + 1)), some (.int r6)], [], x7)) rfl ?_
            refine am_Rr.weak (ls0 := [some (.ref 0), some (.int v1), some (.int v2), none, some (.int v4), some (.int v5), some (.int (v6 + 1)), none]) (by simp [am_le]) ?_
            exact ih _ _ _ _ _ _ hF
          · rw [if_neg h10] at hF
            refine am_Rr.go 6 (σ' := (30, [some (.ref 0), some (.int v1), some (.int v2), none, some (.int v6), some (.int r6), some (.int (v6 + 1)), some (.int r6)], [], x7)) rfl ?_
            refine am_Rr.weak (ls0 := [some (.ref 0), some (.int v1), some (.int v2), none, some (.int v6), some (.int r6), some (.int (v6 + 1)), none]) (by simp [am_le]) ?_
            exact ih _ _ _ _ _ _ hF
noncomputable def G_X7_bestSeeker (a : Int32) (b : Int32) (x : am_X) : Option (Int32 × am_X) := (match G_X7_wrongSearch a b (0 : Int32) x with | none => none | some (r1, x2) => (if (0 : Int32) ≤ r1 then L_X7_bestSeeker_30 1000 a b (-9 : Int32) (201 : Int32) (0 : Int32) x2 else (match G_X7_refused r1 x2 with | none => none | some (r17, x18) => some (r17, x18))))
theorem A_X7_bestSeeker (d : Nat) {a : Int32} {b : Int32} {x : am_X} {res : Int32 × am_X} (hF : G_X7_bestSeeker a b x = some res) : am_T (d + 8) mX7_bestSeeker [.ref 0, .int a, .int b] x (fun ro y => ro = some (.int res.1) ∧ res.2 = y) := by
  refine am_T.of rfl ?_
  show am_Rr (d + 7) kX7_bestSeeker (0, [some (.ref 0), some (.int a), some (.int b), none, none, none, none, none], [], x) _
  unfold G_X7_bestSeeker at hF
  refine am_Rr.go 4 (σ' := (4, [some (.ref 0), some (.int a), some (.int b), none, none, none, none, none], [.int 0, .int b, .int a, .ref 0], x)) rfl ?_
  cases g3 : G_X7_wrongSearch a b (0 : Int32) x with
  | none => rw [g3] at hF; cases hF
  | some q_ =>
    obtain ⟨r1, x2⟩ := q_
    rw [g3] at hF
    dsimp only at hF
    refine am_Rr.call (pc := 7) (ls := [some (.ref 0), some (.int a), some (.int b), none, none, none, none, none]) (st := []) rfl (A_X7_wrongSearch (d + 4) g3) ?_
    rintro _ _ ⟨rfl, rfl⟩
    show am_Rr _ _ (7, [some (.ref 0), some (.int a), some (.int b), none, none, none, none, none], [.int r1], x2) _
    refine am_Rr.go 3 (σ' := (if (0 : Int32) ≤ r1 then 18 else 12, [some (.ref 0), some (.int a), some (.int b), some (.int r1), none, none, none, none], [], x2)) rfl ?_
    refine am_Rr.ite (fun h4 => ?_) (fun h4 => ?_)
    · rw [if_pos h4] at hF
      refine am_Rr.go 6 (σ' := (30, [some (.ref 0), some (.int a), some (.int b), some (.int r1), some (.int (-9)), some (.int 201), some (.int 0), none], [], x2)) rfl ?_
      refine am_Rr.weak (ls0 := [some (.ref 0), some (.int a), some (.int b), none, some (.int (-9)), some (.int 201), some (.int 0), none]) (by simp [am_le]) ?_
      exact L_X7_bestSeeker_30_ok d res _ _ _ _ _ _ _ hF
    · rw [if_neg h4] at hF
      refine am_Rr.go 2 (σ' := (14, [some (.ref 0), some (.int a), some (.int b), some (.int r1), none, none, none, none], [.int r1, .ref 0], x2)) rfl ?_
      cases g19 : G_X7_refused r1 x2 with
      | none => rw [g19] at hF; cases hF
      | some q_ =>
        obtain ⟨r17, x18⟩ := q_
        rw [g19] at hF
        dsimp only at hF
        refine am_Rr.call (pc := 17) (ls := [some (.ref 0), some (.int a), some (.int b), some (.int r1), none, none, none, none]) (st := []) rfl (A_X7_refused (d + 5) g19) ?_
        rintro _ _ ⟨rfl, rfl⟩
        show am_Rr _ _ (17, [some (.ref 0), some (.int a), some (.int b), some (.int r1), none, none, none, none], [.int r17], x18) _
        obtain rfl := Option.some.inj hF
        exact am_Rr.ret (v := some (.int r17)) (x := x18) rfl (by trivial) ⟨rfl, rfl⟩
