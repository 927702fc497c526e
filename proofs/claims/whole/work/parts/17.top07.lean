noncomputable def L_X7_judge_34 : Nat → Int32 → am_X → Option (Int32 × am_X)
  | 0, _, _ => none
  | n + 1, v3, x => (if (x.1 513) ≤ v3 then some ((-9 : Int32), x) else (if am_hasb (x.2.1 641) (am_nat16 (x.1 513) (x.2.2.1 17) v3) then L_X7_judge_34 n (v3 + 1) (am_lkx x (am_nat16 (x.1 513) (x.2.2.1 17) v3)) else some (v3, x)))
theorem L_X7_judge_34_ok (d : Nat) (res : Int32 × am_X) : ∀ (n : Nat) (v3 : Int32) (x : am_X), L_X7_judge_34 n v3 x = some res → am_Rr (d + 5) kX7_judge (34, [some (.ref 0), none, none, some (.int v3)], [], x) (fun ro y => ro = some (.int res.1) ∧ res.2 = y) := by
  intro n
  induction n with
  | zero =>
    intro v3 x hF
    cases hF
  | succ n ih =>
    intro v3 x hF
    rw [L_X7_judge_34] at hF
    refine am_Rr.go 5 (σ' := (if (x.1 513) ≤ v3 then 93 else 45, [some (.ref 0), none, none, some (.int v3)], [], x)) rfl ?_
    refine am_Rr.ite (fun h8 => ?_) (fun h8 => ?_)
    · rw [if_pos h8] at hF
      refine am_Rr.go 1 (σ' := (95, [some (.ref 0), none, none, some (.int v3)], [.int (-9)], x)) rfl ?_
      obtain rfl := Option.some.inj hF
      exact am_Rr.ret (v := some (.int (-9))) (x := x) rfl (by trivial) ⟨rfl, rfl⟩
    · rw [if_neg h8] at hF
      refine am_Rr.go 6 (σ' := (57, [some (.ref 0), none, none, some (.int v3)], [.int v3, .ref 16, .long (x.2.1 641)], x)) rfl ?_
      refine am_Rr.call (pc := 60) (ls := [some (.ref 0), none, none, some (.int v3)]) (st := [.long (x.2.1 641)]) rfl (S_at_16 (d + 3) v3 x) ?_
      rintro _ _ ⟨rfl, rfl⟩
      show am_Rr _ _ (60, [some (.ref 0), none, none, some (.int v3)], [.int (am_nat16 (x.1 513) (x.2.2.1 17) v3), .long (x.2.1 641)], x) _
      refine am_Rr.call (pc := 63) (ls := [some (.ref 0), none, none, some (.int v3)]) (st := []) rfl (S_has (d + 1) (x.2.1 641) (am_nat16 (x.1 513) (x.2.2.1 17) v3) x) ?_
      rintro _ _ ⟨rfl, (⟨rfl, b9⟩ | ⟨rfl, b9⟩)⟩
      · rw [if_pos b9] at hF
        show am_Rr _ _ (63, [some (.ref 0), none, none, some (.int v3)], [.int 1], x) _
        refine am_Rr.go 8 (σ' := (81, [some (.ref 0), none, none, some (.int v3)], [.int v3, .ref 16, .ref 1, .ref 20], x)) rfl ?_
        refine am_Rr.call (pc := 84) (ls := [some (.ref 0), none, none, some (.int v3)]) (st := [.ref 1, .ref 20]) rfl (S_at_16 (d + 3) v3 x) ?_
        rintro _ _ ⟨rfl, rfl⟩
        show am_Rr _ _ (84, [some (.ref 0), none, none, some (.int v3)], [.int (am_nat16 (x.1 513) (x.2.2.1 17) v3), .ref 1, .ref 20], x) _
        refine am_Rr.call (pc := 87) (ls := [some (.ref 0), none, none, some (.int v3)]) (st := []) rfl (S_look (d + 1) (am_nat16 (x.1 513) (x.2.2.1 17) v3) x) ?_
        rintro _ _ ⟨rfl, rfl⟩
        show am_Rr _ _ (87, [some (.ref 0), none, none, some (.int v3)], [], (am_lkx x (am_nat16 (x.1 513) (x.2.2.1 17) v3))) _
        refine am_Rr.go 2 (σ' := (34, [some (.ref 0), none, none, some (.int (v3 + 1))], [], (am_lkx x (am_nat16 (x.1 513) (x.2.2.1 17) v3)))) rfl ?_
        exact ih _ _ hF
      · rw [if_neg b9] at hF
        show am_Rr _ _ (63, [some (.ref 0), none, none, some (.int v3)], [.int 0], x) _
        refine am_Rr.go 2 (σ' := (67, [some (.ref 0), none, none, some (.int v3)], [.int v3], x)) rfl ?_
        obtain rfl := Option.some.inj hF
        exact am_Rr.ret (v := some (.int v3)) (x := x) rfl (by trivial) ⟨rfl, rfl⟩
noncomputable def G_X7_judge (a : Int32) (x : am_X) : Option (Int32 × am_X) := (match G_X7_wrongMinute a x with | none => none | some (r1, x2) => (if (0 : Int32) ≤ r1 then (match G_X7_reachedBy a x2 with | none => none | some (r5, x6) => L_X7_judge_34 1000 (0 : Int32) (am_bgx x6 r5 a)) else (match G_X7_refused r1 x2 with | none => none | some (r12, x13) => some (r12, x13))))
theorem A_X7_judge (d : Nat) {a : Int32} {x : am_X} {res : Int32 × am_X} (hF : G_X7_judge a x = some res) : am_T (d + 6) mX7_judge [.ref 0, .int a] x (fun ro y => ro = some (.int res.1) ∧ res.2 = y) := by
  refine am_T.of rfl ?_
  show am_Rr (d + 5) kX7_judge (0, [some (.ref 0), some (.int a), none, none], [], x) _
  unfold G_X7_judge at hF
  refine am_Rr.go 1 (σ' := (1, [some (.ref 0), some (.int a), none, none], [.int a], x)) rfl ?_
  cases g3 : G_X7_wrongMinute a x with
  | none => rw [g3] at hF; cases hF
  | some q_ =>
    obtain ⟨r1, x2⟩ := q_
    rw [g3] at hF
    dsimp only at hF
    refine am_Rr.call (pc := 4) (ls := [some (.ref 0), some (.int a), none, none]) (st := []) rfl (A_X7_wrongMinute (d + 2) g3) ?_
    rintro _ _ ⟨rfl, rfl⟩
    show am_Rr _ _ (4, [some (.ref 0), some (.int a), none, none], [.int r1], x2) _
    refine am_Rr.go 3 (σ' := (if (0 : Int32) ≤ r1 then 15 else 9, [some (.ref 0), some (.int a), some (.int r1), none], [], x2)) rfl ?_
    refine am_Rr.ite (fun h4 => ?_) (fun h4 => ?_)
    · rw [if_pos h4] at hF
      refine am_Rr.go 6 (σ' := (25, [some (.ref 0), some (.int a), some (.int r1), none], [.int a, .ref 0, .ref 1, .ref 20], x2)) rfl ?_
      cases g7 : G_X7_reachedBy a x2 with
      | none => rw [g7] at hF; cases hF
      | some q_ =>
        obtain ⟨r5, x6⟩ := q_
        rw [g7] at hF
        dsimp only at hF
        refine am_Rr.call (pc := 28) (ls := [some (.ref 0), some (.int a), some (.int r1), none]) (st := [.ref 1, .ref 20]) rfl (A_X7_reachedBy d g7) ?_
        rintro _ _ ⟨rfl, rfl⟩
        show am_Rr _ _ (28, [some (.ref 0), some (.int a), some (.int r1), none], [.long r5, .ref 1, .ref 20], x6) _
        refine am_Rr.go 1 (σ' := (29, [some (.ref 0), some (.int a), some (.int r1), none], [.int a, .long r5, .ref 1, .ref 20], x6)) rfl ?_
        refine am_Rr.call (pc := 32) (ls := [some (.ref 0), some (.int a), some (.int r1), none]) (st := []) rfl (S_begin (d + 1) r5 a x6) ?_
        rintro _ _ ⟨rfl, rfl⟩
        show am_Rr _ _ (32, [some (.ref 0), some (.int a), some (.int r1), none], [], (am_bgx x6 r5 a)) _
        refine am_Rr.go 2 (σ' := (34, [some (.ref 0), some (.int a), some (.int r1), some (.int 0)], [], (am_bgx x6 r5 a))) rfl ?_
        refine am_Rr.weak (ls0 := [some (.ref 0), none, none, some (.int 0)]) (by simp [am_le]) ?_
        exact L_X7_judge_34_ok d res _ _ _ hF
    · rw [if_neg h4] at hF
      refine am_Rr.go 2 (σ' := (11, [some (.ref 0), some (.int a), some (.int r1), none], [.int r1, .ref 0], x2)) rfl ?_
      cases g14 : G_X7_refused r1 x2 with
      | none => rw [g14] at hF; cases hF
      | some q_ =>
        obtain ⟨r12, x13⟩ := q_
        rw [g14] at hF
        dsimp only at hF
        refine am_Rr.call (pc := 14) (ls := [some (.ref 0), some (.int a), some (.int r1), none]) (st := []) rfl (A_X7_refused (d + 3) g14) ?_
        rintro _ _ ⟨rfl, rfl⟩
        show am_Rr _ _ (14, [some (.ref 0), some (.int a), some (.int r1), none], [.int r12], x13) _
        obtain rfl := Option.some.inj hF
        exact am_Rr.ret (v := some (.int r12)) (x := x13) rfl (by trivial) ⟨rfl, rfl⟩
noncomputable def L_X7_behind_34 : Nat → Int32 → am_X → Option (Int32 × am_X)
  | 0, _, _ => none
  | n + 1, v3, x => (if (x.1 513) ≤ v3 then some ((am_bc (x.2.1 641)), (am_uI x 513 0)) else L_X7_behind_34 n (v3 + 1) (am_lkx x (am_nat16 (x.1 513) (x.2.2.1 17) v3)))
theorem L_X7_behind_34_ok (d : Nat) (res : Int32 × am_X) : ∀ (n : Nat) (v3 : Int32) (x : am_X), L_X7_behind_34 n v3 x = some res → am_Rr (d + 5) kX7_behind (34, [some (.ref 0), none, none, some (.int v3)], [], x) (fun ro y => ro = some (.int res.1) ∧ res.2 = y) := by
  intro n
  induction n with
  | zero =>
    intro v3 x hF
    cases hF
  | succ n ih =>
    intro v3 x hF
    rw [L_X7_behind_34] at hF
    refine am_Rr.go 5 (σ' := (if (x.1 513) ≤ v3 then 70 else 45, [some (.ref 0), none, none, some (.int v3)], [], x)) rfl ?_
    refine am_Rr.ite (fun h8 => ?_) (fun h8 => ?_)
    · rw [if_pos h8] at hF
      refine am_Rr.go 2 (σ' := (74, [some (.ref 0), none, none, some (.int v3)], [.ref 16], x)) rfl ?_
      refine am_Rr.call (pc := 77) (ls := [some (.ref 0), none, none, some (.int v3)]) (st := []) rfl (S_clear_16 (d + 3)  x) ?_
      rintro _ _ ⟨rfl, rfl⟩
      show am_Rr _ _ (77, [some (.ref 0), none, none, some (.int v3)], [], (am_uI x 513 0)) _
      refine am_Rr.go 3 (σ' := (84, [some (.ref 0), none, none, some (.int v3)], [.long (x.2.1 641)], (am_uI x 513 0))) rfl ?_
      refine am_Rr.call (pc := 87) (ls := [some (.ref 0), none, none, some (.int v3)]) (st := []) rfl (S_bitCountJ (d + 3) (x.2.1 641) (am_uI x 513 0)) ?_
      rintro _ _ ⟨rfl, rfl⟩
      show am_Rr _ _ (87, [some (.ref 0), none, none, some (.int v3)], [.int (am_bc (x.2.1 641))], (am_uI x 513 0)) _
      obtain rfl := Option.some.inj hF
      exact am_Rr.ret (v := some (.int (am_bc (x.2.1 641)))) (x := (am_uI x 513 0)) rfl (by trivial) ⟨rfl, rfl⟩
    · rw [if_neg h8] at hF
      refine am_Rr.go 7 (σ' := (58, [some (.ref 0), none, none, some (.int v3)], [.int v3, .ref 16, .ref 1, .ref 20], x)) rfl ?_
      refine am_Rr.call (pc := 61) (ls := [some (.ref 0), none, none, some (.int v3)]) (st := [.ref 1, .ref 20]) rfl (S_at_16 (d + 3) v3 x) ?_
      rintro _ _ ⟨rfl, rfl⟩
      show am_Rr _ _ (61, [some (.ref 0), none, none, some (.int v3)], [.int (am_nat16 (x.1 513) (x.2.2.1 17) v3), .ref 1, .ref 20], x) _
      refine am_Rr.call (pc := 64) (ls := [some (.ref 0), none, none, some (.int v3)]) (st := []) rfl (S_look (d + 1) (am_nat16 (x.1 513) (x.2.2.1 17) v3) x) ?_
      rintro _ _ ⟨rfl, rfl⟩
      show am_Rr _ _ (64, [some (.ref 0), none, none, some (.int v3)], [], (am_lkx x (am_nat16 (x.1 513) (x.2.2.1 17) v3))) _
      refine am_Rr.go 2 (σ' := (34, [some (.ref 0), none, none, some (.int (v3 + 1))], [], (am_lkx x (am_nat16 (x.1 513) (x.2.2.1 17) v3)))) rfl ?_
      exact ih _ _ hF
noncomputable def G_X7_behind (a : Int32) (x : am_X) : Option (Int32 × am_X) := (match G_X7_wrongMinute a x with | none => none | some (r1, x2) => (if (0 : Int32) ≤ r1 then (match G_X7_reachedBy a x2 with | none => none | some (r5, x6) => L_X7_behind_34 1000 (0 : Int32) (am_bgx x6 r5 a)) else (match G_X7_refused r1 x2 with | none => none | some (r11, x12) => some (r11, x12))))
theorem A_X7_behind (d : Nat) {a : Int32} {x : am_X} {res : Int32 × am_X} (hF : G_X7_behind a x = some res) : am_T (d + 6) mX7_behind [.ref 0, .int a] x (fun ro y => ro = some (.int res.1) ∧ res.2 = y) := by
  refine am_T.of rfl ?_
  show am_Rr (d + 5) kX7_behind (0, [some (.ref 0), some (.int a), none, none], [], x) _
  unfold G_X7_behind at hF
  refine am_Rr.go 1 (σ' := (1, [some (.ref 0), some (.int a), none, none], [.int a], x)) rfl ?_
  cases g3 : G_X7_wrongMinute a x with
  | none => rw [g3] at hF; cases hF
  | some q_ =>
    obtain ⟨r1, x2⟩ := q_
    rw [g3] at hF
    dsimp only at hF
    refine am_Rr.call (pc := 4) (ls := [some (.ref 0), some (.int a), none, none]) (st := []) rfl (A_X7_wrongMinute (d + 2) g3) ?_
    rintro _ _ ⟨rfl, rfl⟩
    show am_Rr _ _ (4, [some (.ref 0), some (.int a), none, none], [.int r1], x2) _
    refine am_Rr.go 3 (σ' := (if (0 : Int32) ≤ r1 then 15 else 9, [some (.ref 0), some (.int a), some (.int r1), none], [], x2)) rfl ?_
    refine am_Rr.ite (fun h4 => ?_) (fun h4 => ?_)
    · rw [if_pos h4] at hF
      refine am_Rr.go 6 (σ' := (25, [some (.ref 0), some (.int a), some (.int r1), none], [.int a, .ref 0, .ref 1, .ref 20], x2)) rfl ?_
      cases g7 : G_X7_reachedBy a x2 with
      | none => rw [g7] at hF; cases hF
      | some q_ =>
        obtain ⟨r5, x6⟩ := q_
        rw [g7] at hF
        dsimp only at hF
        refine am_Rr.call (pc := 28) (ls := [some (.ref 0), some (.int a), some (.int r1), none]) (st := [.ref 1, .ref 20]) rfl (A_X7_reachedBy d g7) ?_
        rintro _ _ ⟨rfl, rfl⟩
        show am_Rr _ _ (28, [some (.ref 0), some (.int a), some (.int r1), none], [.long r5, .ref 1, .ref 20], x6) _
        refine am_Rr.go 1 (σ' := (29, [some (.ref 0), some (.int a), some (.int r1), none], [.int a, .long r5, .ref 1, .ref 20], x6)) rfl ?_
        refine am_Rr.call (pc := 32) (ls := [some (.ref 0), some (.int a), some (.int r1), none]) (st := []) rfl (S_begin (d + 1) r5 a x6) ?_
        rintro _ _ ⟨rfl, rfl⟩
        show am_Rr _ _ (32, [some (.ref 0), some (.int a), some (.int r1), none], [], (am_bgx x6 r5 a)) _
        refine am_Rr.go 2 (σ' := (34, [some (.ref 0), some (.int a), some (.int r1), some (.int 0)], [], (am_bgx x6 r5 a))) rfl ?_
        refine am_Rr.weak (ls0 := [some (.ref 0), none, none, some (.int 0)]) (by simp [am_le]) ?_
        exact L_X7_behind_34_ok d res _ _ _ hF
    · rw [if_neg h4] at hF
      refine am_Rr.go 2 (σ' := (11, [some (.ref 0), some (.int a), some (.int r1), none], [.int r1, .ref 0], x2)) rfl ?_
      cases g13 : G_X7_refused r1 x2 with
      | none => rw [g13] at hF; cases hF
      | some q_ =>
        obtain ⟨r11, x12⟩ := q_
        rw [g13] at hF
        dsimp only at hF
        refine am_Rr.call (pc := 14) (ls := [some (.ref 0), some (.int a), some (.int r1), none]) (st := []) rfl (A_X7_refused (d + 3) g13) ?_
        rintro _ _ ⟨rfl, rfl⟩
        show am_Rr _ _ (14, [some (.ref 0), some (.int a), some (.int r1), none], [.int r11], x12) _
        obtain rfl := Option.some.inj hF
        exact am_Rr.ret (v := some (.int r11)) (x := x12) rfl (by trivial) ⟨rfl, rfl⟩
noncomputable def G_X7_drawnDirection (a : Int32) (x : am_X) : Option (Int32 × am_X) := (if a = 0 then some ((0 : Int32), x) else (if a = 1 then some ((1 : Int32), x) else (if a = 2 then some ((3 : Int32), x) else some ((2 : Int32), x))))
theorem A_X7_drawnDirection (d : Nat) {a : Int32} {x : am_X} {res : Int32 × am_X} (hF : G_X7_drawnDirection a x = some res) : am_T (d + 2) mX7_drawnDirection [.int a] x (fun ro y => ro = some (.int res.1) ∧ res.2 = y) := by
  refine am_T.of rfl ?_
  show am_Rr (d + 1) kX7_drawnDirection (0, [some (.int a)], [], x) _
  unfold G_X7_drawnDirection at hF
  refine am_Rr.go 2 (σ' := ((if a = 0 then 28 else (if a = 1 then 30 else (if a = 2 then 32 else 34))), [some (.int a)], [], x)) rfl ?_
  refine am_Rr.ite (fun h1 => ?_) (fun h1 => ?_)
  · rw [if_pos h1] at hF
    refine am_Rr.go 1 (σ' := (29, [some (.int a)], [.int 0], x)) rfl ?_
    obtain rfl := Option.some.inj hF
    exact am_Rr.ret (v := some (.int 0)) (x := x) rfl (by trivial) ⟨rfl, rfl⟩
  rw [if_neg h1] at hF
  refine am_Rr.ite (fun h2 => ?_) (fun h2 => ?_)
  · rw [if_pos h2] at hF
    refine am_Rr.go 1 (σ' := (31, [some (.int a)], [.int 1], x)) rfl ?_
    obtain rfl := Option.some.inj hF
    exact am_Rr.ret (v := some (.int 1)) (x := x) rfl (by trivial) ⟨rfl, rfl⟩
  rw [if_neg h2] at hF
  refine am_Rr.ite (fun h3 => ?_) (fun h3 => ?_)
  · rw [if_pos h3] at hF
    refine am_Rr.go 1 (σ' := (33, [some (.int a)], [.int 3], x)) rfl ?_
    obtain rfl := Option.some.inj hF
    exact am_Rr.ret (v := some (.int 3)) (x := x) rfl (by trivial) ⟨rfl, rfl⟩
  rw [if_neg h3] at hF
  refine am_Rr.go 1 (σ' := (35, [some (.int a)], [.int 2], x)) rfl ?_
  obtain rfl := Option.some.inj hF
  exact am_Rr.ret (v := some (.int 2)) (x := x) rfl (by trivial) ⟨rfl, rfl⟩
noncomputable def L_X7_afterWalkByLot_31 : Nat → Int64 → Int64 → Int32 → am_X → Option (Int64 × am_X)
  | 0, _, _, _, _ => none
  | n + 1, v1, v3, v5, x => (if (30 : Int32) ≤ v5 then some (v3, x) else (match G_X7_drawnDirection (am_dr (x.1 800) (4 : Int32)) (am_uI x 800 (am_nz (x.1 800))) with | none => none | some (r2, x3) => (if (lg_cmp ((am_mv (v3 &&& v1) r2) &&& (am_open (x3.2.2.2 2))) 0) = 0 then L_X7_afterWalkByLot_31 n v1 v3 (v5 + 1) x3 else L_X7_afterWalkByLot_31 n v1 ((am_mv (v3 &&& v1) r2) &&& (am_open (x3.2.2.2 2))) (v5 + 1) x3)))
theorem L_X7_afterWalkByLot_31_ok (d : Nat) (res : Int64 × am_X) : ∀ (n : Nat) (v1 : Int64) (v3 : Int64) (v5 : Int32) (x : am_X), L_X7_afterWalkByLot_31 n v1 v3 v5 x = some res → am_Rr (d + 3) kX7_afterWalkByLot (31, [some (.ref 0), some (.long v1), none, some (.long v3), none, some (.int v5), none, none], [], x) (fun ro y => ro = some (.long res.1) ∧ res.2 = y) := by
  intro n
  induction n with
  | zero =>
    intro v1 v3 v5 x hF
    cases hF
  | succ n ih =>
    intro v1 v3 v5 x hF
    rw [L_X7_afterWalkByLot_31] at hF
    refine am_Rr.go 3 (σ' := (if (30 : Int32) ≤ v5 then 81 else 38, [some (.ref 0), some (.long v1), none, some (.long v3), none, some (.int v5), none, none], [], x)) rfl ?_
    refine am_Rr.ite (fun h1 => ?_) (fun h1 => ?_)
    · rw [if_pos h1] at hF
      refine am_Rr.go 1 (σ' := (82, [some (.ref 0), some (.long v1), none, some (.long v3), none, some (.int v5), none, none], [.long v3], x)) rfl ?_
      obtain rfl := Option.some.inj hF
      exact am_Rr.ret (v := some (.long v3)) (x := x) rfl (by trivial) ⟨rfl, rfl⟩
    · rw [if_neg h1] at hF
      refine am_Rr.go 6 (σ' := (46, [some (.ref 0), some (.long v1), none, some (.long v3), none, some (.int v5), none, none], [.int 4, .ref 25, .long (v3 &&& v1)], x)) rfl ?_
      refine am_Rr.call (pc := 49) (ls := [some (.ref 0), some (.long v1), none, some (.long v3), none, some (.int v5), none, none]) (st := [.long (v3 &&& v1)]) rfl (S_draw (d + 1) (4 : Int32) x) ?_
      rintro _ _ ⟨rfl, rfl⟩
      show am_Rr _ _ (49, [some (.ref 0), some (.long v1), none, some (.long v3), none, some (.int v5), none, none], [.int (am_dr (x.1 800) (4 : Int32)), .long (v3 &&& v1)], (am_uI x 800 (am_nz (x.1 800)))) _
      cases g4 : G_X7_drawnDirection (am_dr (x.1 800) (4 : Int32)) (am_uI x 800 (am_nz (x.1 800))) with
      | none => rw [g4] at hF; cases hF
      | some q_ =>
        obtain ⟨r2, x3⟩ := q_
        rw [g4] at hF
        dsimp only at hF
        refine am_Rr.call (pc := 52) (ls := [some (.ref 0), some (.long v1), none, some (.long v3), none, some (.int v5), none, none]) (st := [.long (v3 &&& v1)]) rfl (A_X7_drawnDirection (d + 1) g4) ?_
        rintro _ _ ⟨rfl, rfl⟩
        show am_Rr _ _ (52, [some (.ref 0), some (.long v1), none, some (.long v3), none, some (.int v5), none, none], [.int r2, .long (v3 &&& v1)], x3) _
        refine am_Rr.call (pc := 55) (ls := [some (.ref 0), some (.long v1), none, some (.long v3), none, some (.int v5), none, none]) (st := []) rfl (S_moved (d + 1) (v3 &&& v1) r2 x3) ?_
        rintro _ _ ⟨rfl, rfl⟩
        show am_Rr _ _ (55, [some (.ref 0), some (.long v1), none, some (.long v3), none, some (.int v5), none, none], [.long (am_mv (v3 &&& v1) r2)], x3) _
        refine am_Rr.go 2 (σ' := (59, [some (.ref 0), some (.long v1), none, some (.long v3), none, some (.int v5), none, none], [.ref 1, .long (am_mv (v3 &&& v1) r2)], x3)) rfl ?_
        refine am_Rr.call (pc := 62) (ls := [some (.ref 0), some (.long v1), none, some (.long v3), none, some (.int v5), none, none]) (st := [.long (am_mv (v3 &&& v1) r2)]) rfl (S_open_1 d  x3) ?_
        rintro _ _ ⟨rfl, rfl⟩
        show am_Rr _ _ (62, [some (.ref 0), some (.long v1), none, some (.long v3), none, some (.int v5), none, none], [.long (am_open (x3.2.2.2 2)), .long (am_mv (v3 &&& v1) r2)], x3) _
        refine am_Rr.go 6 (σ' := (if (lg_cmp ((am_mv (v3 &&& v1) r2) &&& (am_open (x3.2.2.2 2))) 0) = 0 then 75 else 72, [some (.ref 0), some (.long v1), none, some (.long v3), none, some (.int v5), some (.long ((am_mv (v3 &&& v1) r2) &&& (am_open (x3.2.2.2 2)))), none], [], x3)) rfl ?_
        refine am_Rr.ite (fun h5 => ?_) (fun h5 => ?_)
        · rw [if_pos h5] at hF
          refine am_Rr.go 2 (σ' := (31, [some (.ref 0), some (.long v1), none, some (.long v3), none, some (.int (v5 + 1)), some (.long ((am_mv (v3 &&& v1) r2) &&& (am_open (x3.2.2.2 2)))), none], [], x3)) rfl ?_
          refine am_Rr.weak (ls0 := [some (.ref 0), some (.long v1), none, some (.long v3), none, some (.int (v5 + 1)), none, none]) (by simp [am_le]) ?_
          exact ih _ _ _ _ hF
        · rw [if_neg h5] at hF
          refine am_Rr.go 4 (σ' := (31, [some (.ref 0), some (.long v1), none, some (.long ((am_mv (v3 &&& v1) r2) &&& (am_open (x3.2.2.2 2)))), none, some (.int (v5 + 1)), some (.long ((am_mv (v3 &&& v1) r2) &&& (am_open (x3.2.2.2 2)))), none], [], x3)) rfl ?_
          refine am_Rr.weak (ls0 := [some (.ref 0), some (.long v1), none, some (.long ((am_mv (v3 &&& v1) r2) &&& (am_open (x3.2.2.2 2)))), none, some (.int (v5 + 1)), none, none]) (by simp [am_le]) ?_
          exact ih _ _ _ _ hF
noncomputable def G_X7_afterWalkByLot  (x : am_X) : Option (Int64 × am_X) := L_X7_afterWalkByLot_31 1000 ((68719476735 : Int64) &&& ((am_sqo (x.2.2.2 2) (5 : Int32)) ^^^ (-1))) (am_bit (x.1 36)) (0 : Int32) x
theorem A_X7_afterWalkByLot (d : Nat)  {x : am_X} {res : Int64 × am_X} (hF : G_X7_afterWalkByLot  x = some res) : am_T (d + 4) mX7_afterWalkByLot [.ref 0] x (fun ro y => ro = some (.long res.1) ∧ res.2 = y) := by
  refine am_T.of rfl ?_
  show am_Rr (d + 3) kX7_afterWalkByLot (0, [some (.ref 0), none, none, none, none, none, none, none], [], x) _
  unfold G_X7_afterWalkByLot at hF
  refine am_Rr.go 4 (σ' := (8, [some (.ref 0), none, none, none, none, none, none, none], [.int 5, .ref 1, .long 68719476735], x)) rfl ?_
  refine am_Rr.call (pc := 11) (ls := [some (.ref 0), none, none, none, none, none, none, none]) (st := [.long 68719476735]) rfl (S_squaresOf_1 (d + 1) (5 : Int32) x) ?_
  rintro _ _ ⟨rfl, rfl⟩
  show am_Rr _ _ (11, [some (.ref 0), none, none, none, none, none, none, none], [.long (am_sqo (x.2.2.2 2) (5 : Int32)), .long 68719476735], x) _
  refine am_Rr.go 7 (σ' := (24, [some (.ref 0), some (.long ((68719476735 : Int64) &&& ((am_sqo (x.2.2.2 2) (5 : Int32)) ^^^ (-1)))), none, none, none, none, none, none], [.int (x.1 36)], x)) rfl ?_
  refine am_Rr.call (pc := 27) (ls := [some (.ref 0), some (.long ((68719476735 : Int64) &&& ((am_sqo (x.2.2.2 2) (5 : Int32)) ^^^ (-1)))), none, none, none, none, none, none]) (st := []) rfl (S_bit d (x.1 36) x) ?_
  rintro _ _ ⟨rfl, rfl⟩
  show am_Rr _ _ (27, [some (.ref 0), some (.long ((68719476735 : Int64) &&& ((am_sqo (x.2.2.2 2) (5 : Int32)) ^^^ (-1)))), none, none, none, none, none, none], [.long (am_bit (x.1 36))], x) _
  refine am_Rr.go 3 (σ' := (31, [some (.ref 0), some (.long ((68719476735 : Int64) &&& ((am_sqo (x.2.2.2 2) (5 : Int32)) ^^^ (-1)))), none, some (.long (am_bit (x.1 36))), none, some (.int 0), none, none], [], x)) rfl ?_
  exact L_X7_afterWalkByLot_31_ok d res _ _ _ _ _ hF
noncomputable def L_X7_lots_38 : Nat → Int32 → Int32 → Int32 → am_X → Option (Int32 × am_X)
  | 0, _, _, _, _ => none
  | n + 1, v1, v3, v4, x => (if v1 ≤ v4 then some (v3, x) else (match G_X7_afterWalkByLot  x with | none => none | some (r4, x5) => (if (lg_cmp (r4 &&& (am_sqo (x5.2.2.2 2) (5 : Int32))) 0) = 0 then L_X7_lots_38 n v1 v3 (v4 + 1) x5 else L_X7_lots_38 n v1 (v3 + 1) (v4 + 1) x5)))
theorem L_X7_lots_38_ok (d : Nat) (res : Int32 × am_X) : ∀ (n : Nat) (v1 : Int32) (v3 : Int32) (v4 : Int32) (x : am_X), L_X7_lots_38 n v1 v3 v4 x = some res → am_Rr (d + 4) kX7_lots (38, [some (.ref 0), some (.int v1), none, some (.int v3), some (.int v4)], [], x) (fun ro y => ro = some (.int res.1) ∧ res.2 = y) := by
  intro n
  induction n with
  | zero =>
    intro v1 v3 v4 x hF
    cases hF
  | succ n ih =>
    intro v1 v3 v4 x hF
    rw [L_X7_lots_38] at hF
    refine am_Rr.go 3 (σ' := (if v1 ≤ v4 then 71 else 44, [some (.ref 0), some (.int v1), none, some (.int v3), some (.int v4)], [], x)) rfl ?_
    refine am_Rr.ite (fun h3 => ?_) (fun h3 => ?_)
    · rw [if_pos h3] at hF
      refine am_Rr.go 1 (σ' := (72, [some (.ref 0), some (.int v1), none, some (.int v3), some (.int v4)], [.int v3], x)) rfl ?_
      obtain rfl := Option.some.inj hF
      exact am_Rr.ret (v := some (.int v3)) (x := x) rfl (by trivial) ⟨rfl, rfl⟩
    · rw [if_neg h3] at hF
      refine am_Rr.go 1 (σ' := (45, [some (.ref 0), some (.int v1), none, some (.int v3), some (.int v4)], [.ref 0], x)) rfl ?_
      cases g6 : G_X7_afterWalkByLot  x with
      | none => rw [g6] at hF; cases hF
      | some q_ =>
        obtain ⟨r4, x5⟩ := q_
        rw [g6] at hF
        dsimp only at hF
        refine am_Rr.call (pc := 48) (ls := [some (.ref 0), some (.int v1), none, some (.int v3), some (.int v4)]) (st := []) rfl (A_X7_afterWalkByLot d g6) ?_
        rintro _ _ ⟨rfl, rfl⟩
        show am_Rr _ _ (48, [some (.ref 0), some (.int v1), none, some (.int v3), some (.int v4)], [.long r4], x5) _
        refine am_Rr.go 3 (σ' := (53, [some (.ref 0), some (.int v1), none, some (.int v3), some (.int v4)], [.int 5, .ref 1, .long r4], x5)) rfl ?_
        refine am_Rr.call (pc := 56) (ls := [some (.ref 0), some (.int v1), none, some (.int v3), some (.int v4)]) (st := [.long r4]) rfl (S_squaresOf_1 (d + 2) (5 : Int32) x5) ?_
        rintro _ _ ⟨rfl, rfl⟩
        show am_Rr _ _ (56, [some (.ref 0), some (.int v1), none, some (.int v3), some (.int v4)], [.long (am_sqo (x5.2.2.2 2) (5 : Int32)), .long r4], x5) _
        refine am_Rr.go 4 (σ' := (if (lg_cmp (r4 &&& (am_sqo (x5.2.2.2 2) (5 : Int32))) 0) = 0 then 65 else 62, [some (.ref 0), some (.int v1), none, some (.int v3), some (.int v4)], [], x5)) rfl ?_
        refine am_Rr.ite (fun h7 => ?_) (fun h7 => ?_)
        · rw [if_pos h7] at hF
          refine am_Rr.go 2 (σ' := (38, [some (.ref 0), some (.int v1), none, some (.int v3), some (.int (v4 + 1))], [], x5)) rfl ?_
          exact ih _ _ _ _ hF
        · rw [if_neg h7] at hF
          refine am_Rr.go 3 (σ' := (38, [some (.ref 0), some (.int v1), none, some (.int (v3 + 1)), some (.int (v4 + 1))], [], x5)) rfl ?_
          exact ih _ _ _ _ hF
noncomputable def G_X7_lots (a : Int32) (b : Int32) (x : am_X) : Option (Int32 × am_X) := (if (1 : Int32) ≤ a then (if a ≤ 20 then L_X7_lots_38 1000 a (0 : Int32) (0 : Int32) (am_uI x 800 b) else (match G_X7_refused (-6 : Int32) x with | none => none | some (r12, x13) => some (r12, x13))) else (match G_X7_refused (-4 : Int32) x with | none => none | some (r15, x16) => some (r15, x16)))
theorem A_X7_lots (d : Nat) {a : Int32} {b : Int32} {x : am_X} {res : Int32 × am_X} (hF : G_X7_lots a b x = some res) : am_T (d + 5) mX7_lots [.ref 0, .int a, .int b] x (fun ro y => ro = some (.int res.1) ∧ res.2 = y) := by
  refine am_T.of rfl ?_
  show am_Rr (d + 4) kX7_lots (0, [some (.ref 0), some (.int a), some (.int b), none, none], [], x) _
  unfold G_X7_lots at hF
  refine am_Rr.go 3 (σ' := (if (1 : Int32) ≤ a then 12 else 5, [some (.ref 0), some (.int a), some (.int b), none, none], [], x)) rfl ?_
  refine am_Rr.ite (fun h1 => ?_) (fun h1 => ?_)
  · rw [if_pos h1] at hF
    refine am_Rr.go 3 (σ' := (if a ≤ 20 then 25 else 18, [some (.ref 0), some (.int a), some (.int b), none, none], [], x)) rfl ?_
    refine am_Rr.ite (fun h2 => ?_) (fun h2 => ?_)
    · rw [if_pos h2] at hF
      refine am_Rr.go 3 (σ' := (30, [some (.ref 0), some (.int a), some (.int b), none, none], [.int b, .ref 25], x)) rfl ?_
      refine am_Rr.call (pc := 33) (ls := [some (.ref 0), some (.int a), some (.int b), none, none]) (st := []) rfl (S_seed (d + 2) b x) ?_
      rintro _ _ ⟨rfl, rfl⟩
      show am_Rr _ _ (33, [some (.ref 0), some (.int a), some (.int b), none, none], [], (am_uI x 800 b)) _
      refine am_Rr.go 4 (σ' := (38, [some (.ref 0), some (.int a), some (.int b), some (.int 0), some (.int 0)], [], (am_uI x 800 b))) rfl ?_
      refine am_Rr.weak (ls0 := [some (.ref 0), some (.int a), none, some (.int 0), some (.int 0)]) (by simp [am_le]) ?_
      exact L_X7_lots_38_ok d res _ _ _ _ _ hF
    · rw [if_neg h2] at hF
      refine am_Rr.go 2 (σ' := (21, [some (.ref 0), some (.int a), some (.int b), none, none], [.int (-6), .ref 0], x)) rfl ?_
      cases g14 : G_X7_refused (-6 : Int32) x with
      | none => rw [g14] at hF; cases hF
      | some q_ =>
        obtain ⟨r12, x13⟩ := q_
        rw [g14] at hF
        dsimp only at hF
        refine am_Rr.call (pc := 24) (ls := [some (.ref 0), some (.int a), some (.int b), none, none]) (st := []) rfl (A_X7_refused (d + 2) g14) ?_
        rintro _ _ ⟨rfl, rfl⟩
        show am_Rr _ _ (24, [some (.ref 0), some (.int a), some (.int b), none, none], [.int r12], x13) _
        obtain rfl := Option.some.inj hF
        exact am_Rr.ret (v := some (.int r12)) (x := x13) rfl (by trivial) ⟨rfl, rfl⟩
  · rw [if_neg h1] at hF
    refine am_Rr.go 2 (σ' := (8, [some (.ref 0), some (.int a), some (.int b), none, none], [.int (-4), .ref 0], x)) rfl ?_
    cases g17 : G_X7_refused (-4 : Int32) x with
    | none => rw [g17] at hF; cases hF
    | some q_ =>
      obtain ⟨r15, x16⟩ := q_
      rw [g17] at hF
      dsimp only at hF
      refine am_Rr.call (pc := 11) (ls := [some (.ref 0), some (.int a), some (.int b), none, none]) (st := []) rfl (A_X7_refused (d + 2) g17) ?_
      rintro _ _ ⟨rfl, rfl⟩
      show am_Rr _ _ (11, [some (.ref 0), some (.int a), some (.int b), none, none], [.int r15], x16) _
      obtain rfl := Option.some.inj hF
      exact am_Rr.ret (v := some (.int r15)) (x := x16) rfl (by trivial) ⟨rfl, rfl⟩
noncomputable def G_X7_image  (x : am_X) : Option (Int32 × am_X) := some (((am_bec_9_1 x).1 36), (am_uI (am_bec_9_1 x) 10 1))
theorem A_X7_image (d : Nat)  {x : am_X} {res : Int32 × am_X} (hF : G_X7_image  x = some res) : am_T (d + 3) mX7_image [.ref 0] x (fun ro y => ro = some (.int res.1) ∧ res.2 = y) := by
  refine am_T.of rfl ?_
  show am_Rr (d + 2) kX7_image (0, [some (.ref 0)], [], x) _
  unfold G_X7_image at hF
  refine am_Rr.go 4 (σ' := (8, [some (.ref 0)], [.ref 1, .ref 9], x)) rfl ?_
  refine am_Rr.call (pc := 11) (ls := [some (.ref 0)]) (st := []) rfl (S_become_9_1 d x) ?_
  rintro _ _ ⟨rfl, rfl⟩
  show am_Rr _ _ (11, [some (.ref 0)], [], (am_bec_9_1 x)) _
  refine am_Rr.go 2 (σ' := (13, [some (.ref 0)], [.int 1, .ref 0], (am_bec_9_1 x))) rfl ?_
  refine am_Rr.chk (σ' := (16, [some (.ref 0)], [], (am_uI (am_bec_9_1 x) 10 1))) rfl (by first | exact Or.inl rfl | exact Or.inr rfl) ?_
  refine am_Rr.go 3 (σ' := (23, [some (.ref 0)], [.int ((am_bec_9_1 x).1 36)], (am_uI (am_bec_9_1 x) 10 1))) rfl ?_
  obtain rfl := Option.some.inj hF
  exact am_Rr.ret (v := some (.int ((am_bec_9_1 x).1 36))) (x := (am_uI (am_bec_9_1 x) 10 1)) rfl (by trivial) ⟨rfl, rfl⟩
noncomputable def G_X7_on  (x : am_X) : Option (Int32 × am_X) := (if (x.1 10) = 0 then (match G_X7_refused (-3 : Int32) x with | none => none | some (r2, x3) => some (r2, x3)) else some (((am_bec_1_9 x).1 36), (am_bec_1_9 x)))
theorem A_X7_on (d : Nat)  {x : am_X} {res : Int32 × am_X} (hF : G_X7_on  x = some res) : am_T (d + 3) mX7_on [.ref 0] x (fun ro y => ro = some (.int res.1) ∧ res.2 = y) := by
  refine am_T.of rfl ?_
  show am_Rr (d + 2) kX7_on (0, [some (.ref 0)], [], x) _
  unfold G_X7_on at hF
  refine am_Rr.go 3 (σ' := (if (x.1 10) = 0 then 7 else 14, [some (.ref 0)], [], x)) rfl ?_
  refine am_Rr.ite (fun h1 => ?_) (fun h1 => ?_)
  · rw [if_pos h1] at hF
    refine am_Rr.go 2 (σ' := (10, [some (.ref 0)], [.int (-3), .ref 0], x)) rfl ?_
    cases g4 : G_X7_refused (-3 : Int32) x with
    | none => rw [g4] at hF; cases hF
    | some q_ =>
      obtain ⟨r2, x3⟩ := q_
      rw [g4] at hF
      dsimp only at hF
      refine am_Rr.call (pc := 13) (ls := [some (.ref 0)]) (st := []) rfl (A_X7_refused d g4) ?_
      rintro _ _ ⟨rfl, rfl⟩
      show am_Rr _ _ (13, [some (.ref 0)], [.int r2], x3) _
      obtain rfl := Option.some.inj hF
      exact am_Rr.ret (v := some (.int r2)) (x := x3) rfl (by trivial) ⟨rfl, rfl⟩
  · rw [if_neg h1] at hF
    refine am_Rr.go 4 (σ' := (22, [some (.ref 0)], [.ref 9, .ref 1], x)) rfl ?_
    refine am_Rr.call (pc := 25) (ls := [some (.ref 0)]) (st := []) rfl (S_become_1_9 d x) ?_
    rintro _ _ ⟨rfl, rfl⟩
    show am_Rr _ _ (25, [some (.ref 0)], [], (am_bec_1_9 x)) _
    refine am_Rr.go 3 (σ' := (32, [some (.ref 0)], [.int ((am_bec_1_9 x).1 36)], (am_bec_1_9 x))) rfl ?_
    obtain rfl := Option.some.inj hF
    exact am_Rr.ret (v := some (.int ((am_bec_1_9 x).1 36))) (x := (am_bec_1_9 x)) rfl (by trivial) ⟨rfl, rfl⟩
noncomputable def G_X7_count (a : Int32) (x : am_X) : Option (Int32 × am_X) := (if a = 0 then some ((x.1 36), x) else (if a = 1 then some ((x.1 37), x) else (if a = 2 then some ((x.1 38), x) else (if a = 3 then some ((x.1 35), x) else (if a = 4 then some ((am_bc (am_sqo (x.2.2.2 2) (1 : Int32))), x) else (if a = 5 then some ((am_bc (am_sqo (x.2.2.2 2) (2 : Int32))), x) else (if a = 6 then some ((am_bc (am_sqo (x.2.2.2 2) (5 : Int32))), x) else (if a = 7 then some ((x.1 513), x) else (if a = 8 then some ((x.1 449), x) else (match G_X7_refusalsOf ((10 : Int32) - a) x with | none => none | some (r10, x11) => some (r10, x11)))))))))))
theorem A_X7_count (d : Nat) {a : Int32} {x : am_X} {res : Int32 × am_X} (hF : G_X7_count a x = some res) : am_T (d + 3) mX7_count [.ref 0, .int a] x (fun ro y => ro = some (.int res.1) ∧ res.2 = y) := by
  refine am_T.of rfl ?_
  show am_Rr (d + 2) kX7_count (0, [some (.ref 0), some (.int a)], [], x) _
  unfold G_X7_count at hF
  refine am_Rr.go 2 (σ' := ((if a = 0 then 52 else (if a = 1 then 60 else (if a = 2 then 68 else (if a = 3 then 76 else (if a = 4 then 84 else (if a = 5 then 96 else (if a = 6 then 108 else (if a = 7 then 120 else (if a = 8 then 128 else 139))))))))), [some (.ref 0), some (.int a)], [], x)) rfl ?_
  refine am_Rr.ite (fun h1 => ?_) (fun h1 => ?_)
  · rw [if_pos h1] at hF
    refine am_Rr.go 3 (σ' := (59, [some (.ref 0), some (.int a)], [.int (x.1 36)], x)) rfl ?_
    obtain rfl := Option.some.inj hF
    exact am_Rr.ret (v := some (.int (x.1 36))) (x := x) rfl (by trivial) ⟨rfl, rfl⟩
  rw [if_neg h1] at hF
  refine am_Rr.ite (fun h2 => ?_) (fun h2 => ?_)
  · rw [if_pos h2] at hF
    refine am_Rr.go 3 (σ' := (67, [some (.ref 0), some (.int a)], [.int (x.1 37)], x)) rfl ?_
    obtain rfl := Option.some.inj hF
    exact am_Rr.ret (v := some (.int (x.1 37))) (x := x) rfl (by trivial) ⟨rfl, rfl⟩
  rw [if_neg h2] at hF
  refine am_Rr.ite (fun h3 => ?_) (fun h3 => ?_)
  · rw [if_pos h3] at hF
    refine am_Rr.go 3 (σ' := (75, [some (.ref 0), some (.int a)], [.int (x.1 38)], x)) rfl ?_
    obtain rfl := Option.some.inj hF
    exact am_Rr.ret (v := some (.int (x.1 38))) (x := x) rfl (by trivial) ⟨rfl, rfl⟩
  rw [if_neg h3] at hF
  refine am_Rr.ite (fun h4 => ?_) (fun h4 => ?_)
  · rw [if_pos h4] at hF
    refine am_Rr.go 3 (σ' := (83, [some (.ref 0), some (.int a)], [.int (x.1 35)], x)) rfl ?_
    obtain rfl := Option.some.inj hF
    exact am_Rr.ret (v := some (.int (x.1 35))) (x := x) rfl (by trivial) ⟨rfl, rfl⟩
  rw [if_neg h4] at hF
  refine am_Rr.ite (fun h5 => ?_) (fun h5 => ?_)
  · rw [if_pos h5] at hF
    refine am_Rr.go 3 (σ' := (89, [some (.ref 0), some (.int a)], [.int 1, .ref 1], x)) rfl ?_
    refine am_Rr.call (pc := 92) (ls := [some (.ref 0), some (.int a)]) (st := []) rfl (S_squaresOf_1 d (1 : Int32) x) ?_
    rintro _ _ ⟨rfl, rfl⟩
    show am_Rr _ _ (92, [some (.ref 0), some (.int a)], [.long (am_sqo (x.2.2.2 2) (1 : Int32))], x) _
    refine am_Rr.call (pc := 95) (ls := [some (.ref 0), some (.int a)]) (st := []) rfl (S_bitCountJ d (am_sqo (x.2.2.2 2) (1 : Int32)) x) ?_
    rintro _ _ ⟨rfl, rfl⟩
    show am_Rr _ _ (95, [some (.ref 0), some (.int a)], [.int (am_bc (am_sqo (x.2.2.2 2) (1 : Int32)))], x) _
    obtain rfl := Option.some.inj hF
    exact am_Rr.ret (v := some (.int (am_bc (am_sqo (x.2.2.2 2) (1 : Int32))))) (x := x) rfl (by trivial) ⟨rfl, rfl⟩
  rw [if_neg h5] at hF
  refine am_Rr.ite (fun h6 => ?_) (fun h6 => ?_)
  · rw [if_pos h6] at hF
    refine am_Rr.go 3 (σ' := (101, [some (.ref 0), some (.int a)], [.int 2, .ref 1], x)) rfl ?_
    refine am_Rr.call (pc := 104) (ls := [some (.ref 0), some (.int a)]) (st := []) rfl (S_squaresOf_1 d (2 : Int32) x) ?_
    rintro _ _ ⟨rfl, rfl⟩
    show am_Rr _ _ (104, [some (.ref 0), some (.int a)], [.long (am_sqo (x.2.2.2 2) (2 : Int32))], x) _
    refine am_Rr.call (pc := 107) (ls := [some (.ref 0), some (.int a)]) (st := []) rfl (S_bitCountJ d (am_sqo (x.2.2.2 2) (2 : Int32)) x) ?_
    rintro _ _ ⟨rfl, rfl⟩
    show am_Rr _ _ (107, [some (.ref 0), some (.int a)], [.int (am_bc (am_sqo (x.2.2.2 2) (2 : Int32)))], x) _
    obtain rfl := Option.some.inj hF
    exact am_Rr.ret (v := some (.int (am_bc (am_sqo (x.2.2.2 2) (2 : Int32))))) (x := x) rfl (by trivial) ⟨rfl, rfl⟩
  rw [if_neg h6] at hF
  refine am_Rr.ite (fun h7 => ?_) (fun h7 => ?_)
  · rw [if_pos h7] at hF
    refine am_Rr.go 3 (σ' := (113, [some (.ref 0), some (.int a)], [.int 5, .ref 1], x)) rfl ?_
    refine am_Rr.call (pc := 116) (ls := [some (.ref 0), some (.int a)]) (st := []) rfl (S_squaresOf_1 d (5 : Int32) x) ?_
    rintro _ _ ⟨rfl, rfl⟩
    show am_Rr _ _ (116, [some (.ref 0), some (.int a)], [.long (am_sqo (x.2.2.2 2) (5 : Int32))], x) _
    refine am_Rr.call (pc := 119) (ls := [some (.ref 0), some (.int a)]) (st := []) rfl (S_bitCountJ d (am_sqo (x.2.2.2 2) (5 : Int32)) x) ?_
    rintro _ _ ⟨rfl, rfl⟩
    show am_Rr _ _ (119, [some (.ref 0), some (.int a)], [.int (am_bc (am_sqo (x.2.2.2 2) (5 : Int32)))], x) _
    obtain rfl := Option.some.inj hF
    exact am_Rr.ret (v := some (.int (am_bc (am_sqo (x.2.2.2 2) (5 : Int32))))) (x := x) rfl (by trivial) ⟨rfl, rfl⟩
  rw [if_neg h7] at hF
  refine am_Rr.ite (fun h8 => ?_) (fun h8 => ?_)
  · rw [if_pos h8] at hF
    refine am_Rr.go 3 (σ' := (127, [some (.ref 0), some (.int a)], [.int (x.1 513)], x)) rfl ?_
    obtain rfl := Option.some.inj hF
    exact am_Rr.ret (v := some (.int (x.1 513))) (x := x) rfl (by trivial) ⟨rfl, rfl⟩
  rw [if_neg h8] at hF
  refine am_Rr.ite (fun h9 => ?_) (fun h9 => ?_)
  · rw [if_pos h9] at hF
    refine am_Rr.go 4 (σ' := (138, [some (.ref 0), some (.int a)], [.int (x.1 449)], x)) rfl ?_
    obtain rfl := Option.some.inj hF
    exact am_Rr.ret (v := some (.int (x.1 449))) (x := x) rfl (by trivial) ⟨rfl, rfl⟩
  rw [if_neg h9] at hF
  refine am_Rr.go 4 (σ' := (144, [some (.ref 0), some (.int a)], [.int ((10 : Int32) - a), .ref 0], x)) rfl ?_
  cases g12 : G_X7_refusalsOf ((10 : Int32) - a) x with
  | none => rw [g12] at hF; cases hF
  | some q_ =>
    obtain ⟨r10, x11⟩ := q_
    rw [g12] at hF
    dsimp only at hF
    refine am_Rr.call (pc := 147) (ls := [some (.ref 0), some (.int a)]) (st := []) rfl (A_X7_refusalsOf d g12) ?_
    rintro _ _ ⟨rfl, rfl⟩
    show am_Rr _ _ (147, [some (.ref 0), some (.int a)], [.int r10], x11) _
    obtain rfl := Option.some.inj hF
    exact am_Rr.ret (v := some (.int r10)) (x := x11) rfl (by trivial) ⟨rfl, rfl⟩
