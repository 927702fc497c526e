noncomputable def G_X8_no (a : Int32) (x : am_X) : Option (Int32 × am_X) := (if 0 ≤ (-a).toInt ∧ (-a).toInt < 7 then some (a, (am_sA x 28 (upd (x.2.2.1 28) ((-a).toNatClampNeg) (((x.2.2.1 28) (-a).toNatClampNeg) + 1)))) else none)
theorem A_X8_no (d : Nat) {a : Int32} {x : am_X} {res : Int32 × am_X} (hF : G_X8_no a x = some res) : am_T (d + 2) mX8_no [.ref 27, .int a] x (fun ro y => ro = some (.int res.1) ∧ res.2 = y) := by
  refine am_T.of rfl ?_
  show am_Rr (d + 1) kX8_no (0, [some (.ref 27), some (.int a)], [], x) _
  unfold G_X8_no at hF
  refine am_Rr.go 5 (σ' := (7, [some (.ref 27), some (.int a)], [.int (-a), .ref 28, .int (-a), .ref 28], x)) rfl ?_
  by_cases c1 : 0 ≤ (-a).toInt ∧ (-a).toInt < 7
  · rw [if_pos c1] at hF
    refine am_Rr.chk (σ' := (8, [some (.ref 27), some (.int a)], [.int ((x.2.2.1 28) (-a).toNatClampNeg), .int (-a), .ref 28], x)) rfl (by exact vp_in_iff.mpr c1) ?_
    refine am_Rr.go 2 (σ' := (10, [some (.ref 27), some (.int a)], [.int (((x.2.2.1 28) (-a).toNatClampNeg) + 1), .int (-a), .ref 28], x)) rfl ?_
    refine am_Rr.chk (σ' := (11, [some (.ref 27), some (.int a)], [], (am_sA x 28 (upd (x.2.2.1 28) ((-a).toNatClampNeg) (((x.2.2.1 28) (-a).toNatClampNeg) + 1))))) rfl (by exact vp_in_iff.mpr c1) ?_
    refine am_Rr.go 1 (σ' := (12, [some (.ref 27), some (.int a)], [.int a], (am_sA x 28 (upd (x.2.2.1 28) ((-a).toNatClampNeg) (((x.2.2.1 28) (-a).toNatClampNeg) + 1))))) rfl ?_
    obtain rfl := Option.some.inj hF
    exact am_Rr.ret (v := some (.int a)) (x := (am_sA x 28 (upd (x.2.2.1 28) ((-a).toNatClampNeg) (((x.2.2.1 28) (-a).toNatClampNeg) + 1)))) rfl (by trivial) ⟨rfl, rfl⟩
  · rw [if_neg c1] at hF
    cases hF
noncomputable def L_X8_move_29_30_2 : Nat → Int32 → am_X → Option (Int32 × am_X)
  | 0, _, _ => none
  | n + 1, v2, x => (if (56 : Int32) ≤ v2 then some (v2, x) else (if 0 ≤ v2.toInt ∧ v2.toInt < 56 then L_X8_move_29_30_2 n (v2 + 1) (am_sA x 30 (upd (x.2.2.1 30) v2.toNatClampNeg ((x.2.2.1 29) v2.toNatClampNeg))) else none))
theorem L_X8_move_29_30_2_ok (d : Nat) (post : Option Value → am_X → Prop) (w2 : Int32) (y : am_X) : ∀ (n : Nat) (v2 : Int32) (x : am_X), L_X8_move_29_30_2 n v2 x = some (w2, y) → am_Rr (d + 1) kX8_move (20, [some (.ref 29), some (.ref 30), some (.int w2)], [], y) post → am_Rr (d + 1) kX8_move (2, [some (.ref 29), some (.ref 30), some (.int v2)], [], x) post := by
  intro n
  induction n with
  | zero =>
    intro v2 x hF
    cases hF
  | succ n ih =>
    intro v2 x hF hk
    rw [L_X8_move_29_30_2] at hF
    refine am_Rr.go 3 (σ' := (if (56 : Int32) ≤ v2 then 20 else 8, [some (.ref 29), some (.ref 30), some (.int v2)], [], x)) rfl ?_
    refine am_Rr.ite (fun h1 => ?_) (fun h1 => ?_)
    · rw [if_pos h1] at hF
      cases hF
      exact hk
    · rw [if_neg h1] at hF
      refine am_Rr.go 4 (σ' := (12, [some (.ref 29), some (.ref 30), some (.int v2)], [.int v2, .ref 29, .int v2, .ref 30], x)) rfl ?_
      by_cases c2 : 0 ≤ v2.toInt ∧ v2.toInt < 56
      · rw [if_pos c2] at hF
        refine am_Rr.chk (σ' := (13, [some (.ref 29), some (.ref 30), some (.int v2)], [.int ((x.2.2.1 29) v2.toNatClampNeg), .int v2, .ref 30], x)) rfl (by exact vp_in_iff.mpr c2) ?_
        refine am_Rr.chk (σ' := (14, [some (.ref 29), some (.ref 30), some (.int v2)], [], (am_sA x 30 (upd (x.2.2.1 30) v2.toNatClampNeg ((x.2.2.1 29) v2.toNatClampNeg))))) rfl (by exact vp_in_iff.mpr c2) ?_
        refine am_Rr.go 2 (σ' := (2, [some (.ref 29), some (.ref 30), some (.int (v2 + 1))], [], (am_sA x 30 (upd (x.2.2.1 30) v2.toNatClampNeg ((x.2.2.1 29) v2.toNatClampNeg))))) rfl ?_
        exact ih _ _ hF hk
      · rw [if_neg c2] at hF
        cases hF
noncomputable def G_X8_move_29_30  (x : am_X) : Option (Unit × am_X) := (match L_X8_move_29_30_2 1000 (0 : Int32) x with | none => none | some (v4, x3) => some ((), x3))
theorem A_X8_move_29_30 (d : Nat)  {x : am_X} {res : Unit × am_X} (hF : G_X8_move_29_30  x = some res) : am_T (d + 2) mX8_move [.ref 29, .ref 30] x (fun ro y => ro = none ∧ res.2 = y) := by
  refine am_T.of rfl ?_
  show am_Rr (d + 1) kX8_move (0, [some (.ref 29), some (.ref 30), none], [], x) _
  unfold G_X8_move_29_30 at hF
  refine am_Rr.go 2 (σ' := (2, [some (.ref 29), some (.ref 30), some (.int 0)], [], x)) rfl ?_
  cases g5 : L_X8_move_29_30_2 1000 (0 : Int32) x with
  | none => rw [g5] at hF; cases hF
  | some q_ =>
    obtain ⟨v4, x3⟩ := q_
    rw [g5] at hF
    dsimp only at hF
    refine L_X8_move_29_30_2_ok d _ v4 x3 _ _ _ g5 ?_
    obtain rfl := Option.some.inj hF
    exact am_Rr.ret (v := none) (x := x3) rfl (by trivial) ⟨rfl, rfl⟩
noncomputable def L_X8_move_30_29_2 : Nat → Int32 → am_X → Option (Int32 × am_X)
  | 0, _, _ => none
  | n + 1, v2, x => (if (56 : Int32) ≤ v2 then some (v2, x) else (if 0 ≤ v2.toInt ∧ v2.toInt < 56 then L_X8_move_30_29_2 n (v2 + 1) (am_sA x 29 (upd (x.2.2.1 29) v2.toNatClampNeg ((x.2.2.1 30) v2.toNatClampNeg))) else none))
theorem L_X8_move_30_29_2_ok (d : Nat) (post : Option Value → am_X → Prop) (w2 : Int32) (y : am_X) : ∀ (n : Nat) (v2 : Int32) (x : am_X), L_X8_move_30_29_2 n v2 x = some (w2, y) → am_Rr (d + 1) kX8_move (20, [some (.ref 30), some (.ref 29), some (.int w2)], [], y) post → am_Rr (d + 1) kX8_move (2, [some (.ref 30), some (.ref 29), some (.int v2)], [], x) post := by
  intro n
  induction n with
  | zero =>
    intro v2 x hF
    cases hF
  | succ n ih =>
    intro v2 x hF hk
    rw [L_X8_move_30_29_2] at hF
    refine am_Rr.go 3 (σ' := (if (56 : Int32) ≤ v2 then 20 else 8, [some (.ref 30), some (.ref 29), some (.int v2)], [], x)) rfl ?_
    refine am_Rr.ite (fun h1 => ?_) (fun h1 => ?_)
    · rw [if_pos h1] at hF
      cases hF
      exact hk
    · rw [if_neg h1] at hF
      refine am_Rr.go 4 (σ' := (12, [some (.ref 30), some (.ref 29), some (.int v2)], [.int v2, .ref 30, .int v2, .ref 29], x)) rfl ?_
      by_cases c2 : 0 ≤ v2.toInt ∧ v2.toInt < 56
      · rw [if_pos c2] at hF
        refine am_Rr.chk (σ' := (13, [some (.ref 30), some (.ref 29), some (.int v2)], [.int ((x.2.2.1 30) v2.toNatClampNeg), .int v2, .ref 29], x)) rfl (by exact vp_in_iff.mpr c2) ?_
        refine am_Rr.chk (σ' := (14, [some (.ref 30), some (.ref 29), some (.int v2)], [], (am_sA x 29 (upd (x.2.2.1 29) v2.toNatClampNeg ((x.2.2.1 30) v2.toNatClampNeg))))) rfl (by exact vp_in_iff.mpr c2) ?_
        refine am_Rr.go 2 (σ' := (2, [some (.ref 30), some (.ref 29), some (.int (v2 + 1))], [], (am_sA x 29 (upd (x.2.2.1 29) v2.toNatClampNeg ((x.2.2.1 30) v2.toNatClampNeg))))) rfl ?_
        exact ih _ _ hF hk
      · rw [if_neg c2] at hF
        cases hF
noncomputable def G_X8_move_30_29  (x : am_X) : Option (Unit × am_X) := (match L_X8_move_30_29_2 1000 (0 : Int32) x with | none => none | some (v4, x3) => some ((), x3))
theorem A_X8_move_30_29 (d : Nat)  {x : am_X} {res : Unit × am_X} (hF : G_X8_move_30_29  x = some res) : am_T (d + 2) mX8_move [.ref 30, .ref 29] x (fun ro y => ro = none ∧ res.2 = y) := by
  refine am_T.of rfl ?_
  show am_Rr (d + 1) kX8_move (0, [some (.ref 30), some (.ref 29), none], [], x) _
  unfold G_X8_move_30_29 at hF
  refine am_Rr.go 2 (σ' := (2, [some (.ref 30), some (.ref 29), some (.int 0)], [], x)) rfl ?_
  cases g5 : L_X8_move_30_29_2 1000 (0 : Int32) x with
  | none => rw [g5] at hF; cases hF
  | some q_ =>
    obtain ⟨v4, x3⟩ := q_
    rw [g5] at hF
    dsimp only at hF
    refine L_X8_move_30_29_2_ok d _ v4 x3 _ _ _ g5 ?_
    obtain rfl := Option.some.inj hF
    exact am_Rr.ret (v := none) (x := x3) rfl (by trivial) ⟨rfl, rfl⟩
noncomputable def L_X8_move_29_36_2 : Nat → Int32 → am_X → Option (Int32 × am_X)
  | 0, _, _ => none
  | n + 1, v2, x => (if (56 : Int32) ≤ v2 then some (v2, x) else (if 0 ≤ v2.toInt ∧ v2.toInt < 56 then L_X8_move_29_36_2 n (v2 + 1) (am_sA x 36 (upd (x.2.2.1 36) v2.toNatClampNeg ((x.2.2.1 29) v2.toNatClampNeg))) else none))
theorem L_X8_move_29_36_2_ok (d : Nat) (post : Option Value → am_X → Prop) (w2 : Int32) (y : am_X) : ∀ (n : Nat) (v2 : Int32) (x : am_X), L_X8_move_29_36_2 n v2 x = some (w2, y) → am_Rr (d + 1) kX8_move (20, [some (.ref 29), some (.ref 36), some (.int w2)], [], y) post → am_Rr (d + 1) kX8_move (2, [some (.ref 29), some (.ref 36), some (.int v2)], [], x) post := by
  intro n
  induction n with
  | zero =>
    intro v2 x hF
    cases hF
  | succ n ih =>
    intro v2 x hF hk
    rw [L_X8_move_29_36_2] at hF
    refine am_Rr.go 3 (σ' := (if (56 : Int32) ≤ v2 then 20 else 8, [some (.ref 29), some (.ref 36), some (.int v2)], [], x)) rfl ?_
    refine am_Rr.ite (fun h1 => ?_) (fun h1 => ?_)
    · rw [if_pos h1] at hF
      cases hF
      exact hk
    · rw [if_neg h1] at hF
      refine am_Rr.go 4 (σ' := (12, [some (.ref 29), some (.ref 36), some (.int v2)], [.int v2, .ref 29, .int v2, .ref 36], x)) rfl ?_
      by_cases c2 : 0 ≤ v2.toInt ∧ v2.toInt < 56
      · rw [if_pos c2] at hF
        refine am_Rr.chk (σ' := (13, [some (.ref 29), some (.ref 36), some (.int v2)], [.int ((x.2.2.1 29) v2.toNatClampNeg), .int v2, .ref 36], x)) rfl (by exact vp_in_iff.mpr c2) ?_
        refine am_Rr.chk (σ' := (14, [some (.ref 29), some (.ref 36), some (.int v2)], [], (am_sA x 36 (upd (x.2.2.1 36) v2.toNatClampNeg ((x.2.2.1 29) v2.toNatClampNeg))))) rfl (by exact vp_in_iff.mpr c2) ?_
        refine am_Rr.go 2 (σ' := (2, [some (.ref 29), some (.ref 36), some (.int (v2 + 1))], [], (am_sA x 36 (upd (x.2.2.1 36) v2.toNatClampNeg ((x.2.2.1 29) v2.toNatClampNeg))))) rfl ?_
        exact ih _ _ hF hk
      · rw [if_neg c2] at hF
        cases hF
noncomputable def G_X8_move_29_36  (x : am_X) : Option (Unit × am_X) := (match L_X8_move_29_36_2 1000 (0 : Int32) x with | none => none | some (v4, x3) => some ((), x3))
theorem A_X8_move_29_36 (d : Nat)  {x : am_X} {res : Unit × am_X} (hF : G_X8_move_29_36  x = some res) : am_T (d + 2) mX8_move [.ref 29, .ref 36] x (fun ro y => ro = none ∧ res.2 = y) := by
  refine am_T.of rfl ?_
  show am_Rr (d + 1) kX8_move (0, [some (.ref 29), some (.ref 36), none], [], x) _
  unfold G_X8_move_29_36 at hF
  refine am_Rr.go 2 (σ' := (2, [some (.ref 29), some (.ref 36), some (.int 0)], [], x)) rfl ?_
  cases g5 : L_X8_move_29_36_2 1000 (0 : Int32) x with
  | none => rw [g5] at hF; cases hF
  | some q_ =>
    obtain ⟨v4, x3⟩ := q_
    rw [g5] at hF
    dsimp only at hF
    refine L_X8_move_29_36_2_ok d _ v4 x3 _ _ _ g5 ?_
    obtain rfl := Option.some.inj hF
    exact am_Rr.ret (v := none) (x := x3) rfl (by trivial) ⟨rfl, rfl⟩
noncomputable def L_X8_move_36_29_2 : Nat → Int32 → am_X → Option (Int32 × am_X)
  | 0, _, _ => none
  | n + 1, v2, x => (if (56 : Int32) ≤ v2 then some (v2, x) else (if 0 ≤ v2.toInt ∧ v2.toInt < 56 then L_X8_move_36_29_2 n (v2 + 1) (am_sA x 29 (upd (x.2.2.1 29) v2.toNatClampNeg ((x.2.2.1 36) v2.toNatClampNeg))) else none))
theorem L_X8_move_36_29_2_ok (d : Nat) (post : Option Value → am_X → Prop) (w2 : Int32) (y : am_X) : ∀ (n : Nat) (v2 : Int32) (x : am_X), L_X8_move_36_29_2 n v2 x = some (w2, y) → am_Rr (d + 1) kX8_move (20, [some (.ref 36), some (.ref 29), some (.int w2)], [], y) post → am_Rr (d + 1) kX8_move (2, [some (.ref 36), some (.ref 29), some (.int v2)], [], x) post := by
  intro n
  induction n with
  | zero =>
    intro v2 x hF
    cases hF
  | succ n ih =>
    intro v2 x hF hk
    rw [L_X8_move_36_29_2] at hF
    refine am_Rr.go 3 (σ' := (if (56 : Int32) ≤ v2 then 20 else 8, [some (.ref 36), some (.ref 29), some (.int v2)], [], x)) rfl ?_
    refine am_Rr.ite (fun h1 => ?_) (fun h1 => ?_)
    · rw [if_pos h1] at hF
      cases hF
      exact hk
    · rw [if_neg h1] at hF
      refine am_Rr.go 4 (σ' := (12, [some (.ref 36), some (.ref 29), some (.int v2)], [.int v2, .ref 36, .int v2, .ref 29], x)) rfl ?_
      by_cases c2 : 0 ≤ v2.toInt ∧ v2.toInt < 56
      · rw [if_pos c2] at hF
        refine am_Rr.chk (σ' := (13, [some (.ref 36), some (.ref 29), some (.int v2)], [.int ((x.2.2.1 36) v2.toNatClampNeg), .int v2, .ref 29], x)) rfl (by exact vp_in_iff.mpr c2) ?_
        refine am_Rr.chk (σ' := (14, [some (.ref 36), some (.ref 29), some (.int v2)], [], (am_sA x 29 (upd (x.2.2.1 29) v2.toNatClampNeg ((x.2.2.1 36) v2.toNatClampNeg))))) rfl (by exact vp_in_iff.mpr c2) ?_
        refine am_Rr.go 2 (σ' := (2, [some (.ref 36), some (.ref 29), some (.int (v2 + 1))], [], (am_sA x 29 (upd (x.2.2.1 29) v2.toNatClampNeg ((x.2.2.1 36) v2.toNatClampNeg))))) rfl ?_
        exact ih _ _ hF hk
      · rw [if_neg c2] at hF
        cases hF
noncomputable def G_X8_move_36_29  (x : am_X) : Option (Unit × am_X) := (match L_X8_move_36_29_2 1000 (0 : Int32) x with | none => none | some (v4, x3) => some ((), x3))
theorem A_X8_move_36_29 (d : Nat)  {x : am_X} {res : Unit × am_X} (hF : G_X8_move_36_29  x = some res) : am_T (d + 2) mX8_move [.ref 36, .ref 29] x (fun ro y => ro = none ∧ res.2 = y) := by
  refine am_T.of rfl ?_
  show am_Rr (d + 1) kX8_move (0, [some (.ref 36), some (.ref 29), none], [], x) _
  unfold G_X8_move_36_29 at hF
  refine am_Rr.go 2 (σ' := (2, [some (.ref 36), some (.ref 29), some (.int 0)], [], x)) rfl ?_
  cases g5 : L_X8_move_36_29_2 1000 (0 : Int32) x with
  | none => rw [g5] at hF; cases hF
  | some q_ =>
    obtain ⟨v4, x3⟩ := q_
    rw [g5] at hF
    dsimp only at hF
    refine L_X8_move_36_29_2_ok d _ v4 x3 _ _ _ g5 ?_
    obtain rfl := Option.some.inj hF
    exact am_Rr.ret (v := none) (x := x3) rfl (by trivial) ⟨rfl, rfl⟩
noncomputable def G_X8_isNoSquare (a : Int32) (x : am_X) : Option (Int32 × am_X) := (if a < 0 then some ((1 : Int32), x) else (if a < 36 then some ((0 : Int32), x) else some ((1 : Int32), x)))
theorem A_X8_isNoSquare (d : Nat) {a : Int32} {x : am_X} {res : Int32 × am_X} (hF : G_X8_isNoSquare a x = some res) : am_T (d + 2) mX8_isNoSquare [.int a] x (fun ro y => ro = some (.int res.1) ∧ res.2 = y) := by
  refine am_T.of rfl ?_
  show am_Rr (d + 1) kX8_isNoSquare (0, [some (.int a)], [], x) _
  unfold G_X8_isNoSquare at hF
  refine am_Rr.go 2 (σ' := (if a < 0 then 10 else 4, [some (.int a)], [], x)) rfl ?_
  refine am_Rr.ite (fun h1 => ?_) (fun h1 => ?_)
  · rw [if_pos h1] at hF
    refine am_Rr.go 2 (σ' := (15, [some (.int a)], [.int 1], x)) rfl ?_
    obtain rfl := Option.some.inj hF
    exact am_Rr.ret (v := some (.int 1)) (x := x) rfl (by first | exact Or.inl rfl | exact Or.inr rfl | assumption) ⟨rfl, rfl⟩
  · rw [if_neg h1] at hF
    refine am_Rr.go 3 (σ' := (if a < 36 then 14 else 10, [some (.int a)], [], x)) rfl ?_
    refine am_Rr.ite (fun h2 => ?_) (fun h2 => ?_)
    · rw [if_pos h2] at hF
      refine am_Rr.go 1 (σ' := (15, [some (.int a)], [.int 0], x)) rfl ?_
      obtain rfl := Option.some.inj hF
      exact am_Rr.ret (v := some (.int 0)) (x := x) rfl (by first | exact Or.inl rfl | exact Or.inr rfl | assumption) ⟨rfl, rfl⟩
    · rw [if_neg h2] at hF
      refine am_Rr.go 2 (σ' := (15, [some (.int a)], [.int 1], x)) rfl ?_
      obtain rfl := Option.some.inj hF
      exact am_Rr.ret (v := some (.int 1)) (x := x) rfl (by first | exact Or.inl rfl | exact Or.inr rfl | assumption) ⟨rfl, rfl⟩
noncomputable def G_X8_kindOf (a : Int32) (x : am_X) : Option (Int32 × am_X) := (if 0 ≤ ((20 : Int32) + a).toInt ∧ ((20 : Int32) + a).toInt < 56 then some (((x.2.2.1 29) ((20 : Int32) + a).toNatClampNeg), x) else none)
theorem A_X8_kindOf (d : Nat) {a : Int32} {x : am_X} {res : Int32 × am_X} (hF : G_X8_kindOf a x = some res) : am_T (d + 2) mX8_kindOf [.ref 27, .int a] x (fun ro y => ro = some (.int res.1) ∧ res.2 = y) := by
  refine am_T.of rfl ?_
  show am_Rr (d + 1) kX8_kindOf (0, [some (.ref 27), some (.int a)], [], x) _
  unfold G_X8_kindOf at hF
  refine am_Rr.go 5 (σ' := (8, [some (.ref 27), some (.int a)], [.int ((20 : Int32) + a), .ref 29], x)) rfl ?_
  by_cases c1 : 0 ≤ ((20 : Int32) + a).toInt ∧ ((20 : Int32) + a).toInt < 56
  · rw [if_pos c1] at hF
    refine am_Rr.chk (σ' := (9, [some (.ref 27), some (.int a)], [.int ((x.2.2.1 29) ((20 : Int32) + a).toNatClampNeg)], x)) rfl (by exact vp_in_iff.mpr c1) ?_
    obtain rfl := Option.some.inj hF
    exact am_Rr.ret (v := some (.int ((x.2.2.1 29) ((20 : Int32) + a).toNatClampNeg))) (x := x) rfl (by trivial) ⟨rfl, rfl⟩
  · rw [if_neg c1] at hF
    cases hF
noncomputable def L_X8_oneOf_32_2 : Nat → Int32 → am_X → Option (Int32 × am_X)
  | 0, _, _ => none
  | n + 1, v2, x => (if (6 : Int32) ≤ v2 then some ((0 : Int32), (am_uI x 871 0)) else (if (x.1 871) = 0 then L_X8_oneOf_32_2 n (v2 + 1) x else (if (x.1 869) ≤ (x.1 870) then L_X8_oneOf_32_2 n (v2 + 1) x else (if 0 ≤ (x.1 870).toInt ∧ (x.1 870).toInt < 96 then (if 0 ≤ v2.toInt ∧ v2.toInt < 6 then (if ((x.2.2.1 31) (x.1 870).toNatClampNeg) = ((x.2.2.1 32) v2.toNatClampNeg) then some (v2, (am_uI x 870 ((x.1 870) + 1))) else L_X8_oneOf_32_2 n (v2 + 1) x) else none) else none))))
theorem L_X8_oneOf_32_2_ok (d : Nat) (res : Int32 × am_X) : ∀ (n : Nat) (v2 : Int32) (x : am_X), L_X8_oneOf_32_2 n v2 x = some res → am_Rr (d + 1) kX8_oneOf (2, [some (.ref 27), some (.ref 32), some (.int v2)], [], x) (fun ro y => ro = some (.int res.1) ∧ res.2 = y) := by
  intro n
  induction n with
  | zero =>
    intro v2 x hF
    cases hF
  | succ n ih =>
    intro v2 x hF
    rw [L_X8_oneOf_32_2] at hF
    refine am_Rr.go 4 (σ' := (if (6 : Int32) ≤ v2 then 59 else 8, [some (.ref 27), some (.ref 32), some (.int v2)], [], x)) rfl ?_
    refine am_Rr.ite (fun h1 => ?_) (fun h1 => ?_)
    · rw [if_pos h1] at hF
      refine am_Rr.go 2 (σ' := (61, [some (.ref 27), some (.ref 32), some (.int v2)], [.int 0, .ref 27], x)) rfl ?_
      refine am_Rr.chk (σ' := (64, [some (.ref 27), some (.ref 32), some (.int v2)], [], (am_uI x 871 0))) rfl (by first | exact Or.inl rfl | exact Or.inr rfl) ?_
      refine am_Rr.go 1 (σ' := (65, [some (.ref 27), some (.ref 32), some (.int v2)], [.int 0], (am_uI x 871 0))) rfl ?_
      obtain rfl := Option.some.inj hF
      exact am_Rr.ret (v := some (.int 0)) (x := (am_uI x 871 0)) rfl (by trivial) ⟨rfl, rfl⟩
    · rw [if_neg h1] at hF
      refine am_Rr.go 3 (σ' := (if (x.1 871) = 0 then 53 else 15, [some (.ref 27), some (.ref 32), some (.int v2)], [], x)) rfl ?_
      refine am_Rr.ite (fun h3 => ?_) (fun h3 => ?_)
      · rw [if_pos h3] at hF
        refine am_Rr.go 2 (σ' := (2, [some (.ref 27), some (.ref 32), some (.int (v2 + 1))], [], x)) rfl ?_
        exact ih _ _ hF
      · rw [if_neg h3] at hF
        refine am_Rr.go 5 (σ' := (if (x.1 869) ≤ (x.1 870) then 53 else 26, [some (.ref 27), some (.ref 32), some (.int v2)], [], x)) rfl ?_
        refine am_Rr.ite (fun h4 => ?_) (fun h4 => ?_)
        · rw [if_pos h4] at hF
          refine am_Rr.go 2 (σ' := (2, [some (.ref 27), some (.ref 32), some (.int (v2 + 1))], [], x)) rfl ?_
          exact ih _ _ hF
        · rw [if_neg h4] at hF
          refine am_Rr.go 4 (σ' := (34, [some (.ref 27), some (.ref 32), some (.int v2)], [.int (x.1 870), .ref 31], x)) rfl ?_
          by_cases c5 : 0 ≤ (x.1 870).toInt ∧ (x.1 870).toInt < 96
          · rw [if_pos c5] at hF
            refine am_Rr.chk (σ' := (35, [some (.ref 27), some (.ref 32), some (.int v2)], [.int ((x.2.2.1 31) (x.1 870).toNatClampNeg)], x)) rfl (by exact vp_in_iff.mpr c5) ?_
            refine am_Rr.go 2 (σ' := (37, [some (.ref 27), some (.ref 32), some (.int v2)], [.int v2, .ref 32, .int ((x.2.2.1 31) (x.1 870).toNatClampNeg)], x)) rfl ?_
            by_cases c6 : 0 ≤ v2.toInt ∧ v2.toInt < 6
            · rw [if_pos c6] at hF
              refine am_Rr.chk (σ' := (38, [some (.ref 27), some (.ref 32), some (.int v2)], [.int ((x.2.2.1 32) v2.toNatClampNeg), .int ((x.2.2.1 31) (x.1 870).toNatClampNeg)], x)) rfl (by exact vp_in_iff.mpr c6) ?_
              refine am_Rr.go 1 (σ' := (if ((x.2.2.1 31) (x.1 870).toNatClampNeg) = ((x.2.2.1 32) v2.toNatClampNeg) then 41 else 53, [some (.ref 27), some (.ref 32), some (.int v2)], [], x)) rfl ?_
              refine am_Rr.ite (fun h7 => ?_) (fun h7 => ?_)
              · rw [if_pos h7] at hF
                refine am_Rr.go 7 (σ' := (52, [some (.ref 27), some (.ref 32), some (.int v2)], [.int v2], (am_uI x 870 ((x.1 870) + 1)))) rfl ?_
                obtain rfl := Option.some.inj hF
                exact am_Rr.ret (v := some (.int v2)) (x := (am_uI x 870 ((x.1 870) + 1))) rfl (by trivial) ⟨rfl, rfl⟩
              · rw [if_neg h7] at hF
                refine am_Rr.go 2 (σ' := (2, [some (.ref 27), some (.ref 32), some (.int (v2 + 1))], [], x)) rfl ?_
                exact ih _ _ hF
            · rw [if_neg c6] at hF
              cases hF
          · rw [if_neg c5] at hF
            cases hF
noncomputable def G_X8_oneOf_32  (x : am_X) : Option (Int32 × am_X) := L_X8_oneOf_32_2 1000 (0 : Int32) x
theorem A_X8_oneOf_32 (d : Nat)  {x : am_X} {res : Int32 × am_X} (hF : G_X8_oneOf_32  x = some res) : am_T (d + 2) mX8_oneOf [.ref 27, .ref 32] x (fun ro y => ro = some (.int res.1) ∧ res.2 = y) := by
  refine am_T.of rfl ?_
  show am_Rr (d + 1) kX8_oneOf (0, [some (.ref 27), some (.ref 32), none], [], x) _
  unfold G_X8_oneOf_32 at hF
  refine am_Rr.go 2 (σ' := (2, [some (.ref 27), some (.ref 32), some (.int 0)], [], x)) rfl ?_
  exact L_X8_oneOf_32_2_ok d res _ _ _ hF
noncomputable def L_X8_oneOf_33_2 : Nat → Int32 → am_X → Option (Int32 × am_X)
  | 0, _, _ => none
  | n + 1, v2, x => (if (6 : Int32) ≤ v2 then some ((0 : Int32), (am_uI x 871 0)) else (if (x.1 871) = 0 then L_X8_oneOf_33_2 n (v2 + 1) x else (if (x.1 869) ≤ (x.1 870) then L_X8_oneOf_33_2 n (v2 + 1) x else (if 0 ≤ (x.1 870).toInt ∧ (x.1 870).toInt < 96 then (if 0 ≤ v2.toInt ∧ v2.toInt < 6 then (if ((x.2.2.1 31) (x.1 870).toNatClampNeg) = ((x.2.2.1 33) v2.toNatClampNeg) then some (v2, (am_uI x 870 ((x.1 870) + 1))) else L_X8_oneOf_33_2 n (v2 + 1) x) else none) else none))))
theorem L_X8_oneOf_33_2_ok (d : Nat) (res : Int32 × am_X) : ∀ (n : Nat) (v2 : Int32) (x : am_X), L_X8_oneOf_33_2 n v2 x = some res → am_Rr (d + 1) kX8_oneOf (2, [some (.ref 27), some (.ref 33), some (.int v2)], [], x) (fun ro y => ro = some (.int res.1) ∧ res.2 = y) := by
  intro n
  induction n with
  | zero =>
    intro v2 x hF
    cases hF
  | succ n ih =>
    intro v2 x hF
    rw [L_X8_oneOf_33_2] at hF
    refine am_Rr.go 4 (σ' := (if (6 : Int32) ≤ v2 then 59 else 8, [some (.ref 27), some (.ref 33), some (.int v2)], [], x)) rfl ?_
    refine am_Rr.ite (fun h1 => ?_) (fun h1 => ?_)
    · rw [if_pos h1] at hF
      refine am_Rr.go 2 (σ' := (61, [some (.ref 27), some (.ref 33), some (.int v2)], [.int 0, .ref 27], x)) rfl ?_
      refine am_Rr.chk (σ' := (64, [some (.ref 27), some (.ref 33), some (.int v2)], [], (am_uI x 871 0))) rfl (by first | exact Or.inl rfl | exact Or.inr rfl) ?_
      refine am_Rr.go 1 (σ' := (65, [some (.ref 27), some (.ref 33), some (.int v2)], [.int 0], (am_uI x 871 0))) rfl ?_
      obtain rfl := Option.some.inj hF
      exact am_Rr.ret (v := some (.int 0)) (x := (am_uI x 871 0)) rfl (by trivial) ⟨rfl, rfl⟩
    · rw [if_neg h1] at hF
      refine am_Rr.go 3 (σ' := (if (x.1 871) = 0 then 53 else 15, [some (.ref 27), some (.ref 33), some (.int v2)], [], x)) rfl ?_
      refine am_Rr.ite (fun h3 => ?_) (fun h3 => ?_)
      · rw [if_pos h3] at hF
        refine am_Rr.go 2 (σ' := (2, [some (.ref 27), some (.ref 33), some (.int (v2 + 1))], [], x)) rfl ?_
        exact ih _ _ hF
      · rw [if_neg h3] at hF
        refine am_Rr.go 5 (σ' := (if (x.1 869) ≤ (x.1 870) then 53 else 26, [some (.ref 27), some (.ref 33), some (.int v2)], [], x)) rfl ?_
        refine am_Rr.ite (fun h4 => ?_) (fun h4 => ?_)
        · rw [if_pos h4] at hF
          refine am_Rr.go 2 (σ' := (2, [some (.ref 27), some (.ref 33), some (.int (v2 + 1))], [], x)) rfl ?_
          exact ih _ _ hF
        · rw [if_neg h4] at hF
          refine am_Rr.go 4 (σ' := (34, [some (.ref 27), some (.ref 33), some (.int v2)], [.int (x.1 870), .ref 31], x)) rfl ?_
          by_cases c5 : 0 ≤ (x.1 870).toInt ∧ (x.1 870).toInt < 96
          · rw [if_pos c5] at hF
            refine am_Rr.chk (σ' := (35, [some (.ref 27), some (.ref 33), some (.int v2)], [.int ((x.2.2.1 31) (x.1 870).toNatClampNeg)], x)) rfl (by exact vp_in_iff.mpr c5) ?_
            refine am_Rr.go 2 (σ' := (37, [some (.ref 27), some (.ref 33), some (.int v2)], [.int v2, .ref 33, .int ((x.2.2.1 31) (x.1 870).toNatClampNeg)], x)) rfl ?_
            by_cases c6 : 0 ≤ v2.toInt ∧ v2.toInt < 6
            · rw [if_pos c6] at hF
              refine am_Rr.chk (σ' := (38, [some (.ref 27), some (.ref 33), some (.int v2)], [.int ((x.2.2.1 33) v2.toNatClampNeg), .int ((x.2.2.1 31) (x.1 870).toNatClampNeg)], x)) rfl (by exact vp_in_iff.mpr c6) ?_
              refine am_Rr.go 1 (σ' := (if ((x.2.2.1 31) (x.1 870).toNatClampNeg) = ((x.2.2.1 33) v2.toNatClampNeg) then 41 else 53, [some (.ref 27), some (.ref 33), some (.int v2)], [], x)) rfl ?_
              refine am_Rr.ite (fun h7 => ?_) (fun h7 => ?_)
              · rw [if_pos h7] at hF
                refine am_Rr.go 7 (σ' := (52, [some (.ref 27), some (.ref 33), some (.int v2)], [.int v2], (am_uI x 870 ((x.1 870) + 1)))) rfl ?_
                obtain rfl := Option.some.inj hF
                exact am_Rr.ret (v := some (.int v2)) (x := (am_uI x 870 ((x.1 870) + 1))) rfl (by trivial) ⟨rfl, rfl⟩
              · rw [if_neg h7] at hF
                refine am_Rr.go 2 (σ' := (2, [some (.ref 27), some (.ref 33), some (.int (v2 + 1))], [], x)) rfl ?_
                exact ih _ _ hF
            · rw [if_neg c6] at hF
              cases hF
          · rw [if_neg c5] at hF
            cases hF
noncomputable def G_X8_oneOf_33  (x : am_X) : Option (Int32 × am_X) := L_X8_oneOf_33_2 1000 (0 : Int32) x
theorem A_X8_oneOf_33 (d : Nat)  {x : am_X} {res : Int32 × am_X} (hF : G_X8_oneOf_33  x = some res) : am_T (d + 2) mX8_oneOf [.ref 27, .ref 33] x (fun ro y => ro = some (.int res.1) ∧ res.2 = y) := by
  refine am_T.of rfl ?_
  show am_Rr (d + 1) kX8_oneOf (0, [some (.ref 27), some (.ref 33), none], [], x) _
  unfold G_X8_oneOf_33 at hF
  refine am_Rr.go 2 (σ' := (2, [some (.ref 27), some (.ref 33), some (.int 0)], [], x)) rfl ?_
  exact L_X8_oneOf_33_2_ok d res _ _ _ hF
noncomputable def L_X8_oneOf_34_2 : Nat → Int32 → am_X → Option (Int32 × am_X)
  | 0, _, _ => none
  | n + 1, v2, x => (if (5 : Int32) ≤ v2 then some ((0 : Int32), (am_uI x 871 0)) else (if (x.1 871) = 0 then L_X8_oneOf_34_2 n (v2 + 1) x else (if (x.1 869) ≤ (x.1 870) then L_X8_oneOf_34_2 n (v2 + 1) x else (if 0 ≤ (x.1 870).toInt ∧ (x.1 870).toInt < 96 then (if 0 ≤ v2.toInt ∧ v2.toInt < 5 then (if ((x.2.2.1 31) (x.1 870).toNatClampNeg) = ((x.2.2.1 34) v2.toNatClampNeg) then some (v2, (am_uI x 870 ((x.1 870) + 1))) else L_X8_oneOf_34_2 n (v2 + 1) x) else none) else none))))
theorem L_X8_oneOf_34_2_ok (d : Nat) (res : Int32 × am_X) : ∀ (n : Nat) (v2 : Int32) (x : am_X), L_X8_oneOf_34_2 n v2 x = some res → am_Rr (d + 1) kX8_oneOf (2, [some (.ref 27), some (.ref 34), some (.int v2)], [], x) (fun ro y => ro = some (.int res.1) ∧ res.2 = y) := by
  intro n
  induction n with
  | zero =>
    intro v2 x hF
    cases hF
  | succ n ih =>
    intro v2 x hF
    rw [L_X8_oneOf_34_2] at hF
    refine am_Rr.go 4 (σ' := (if (5 : Int32) ≤ v2 then 59 else 8, [some (.ref 27), some (.ref 34), some (.int v2)], [], x)) rfl ?_
    refine am_Rr.ite (fun h1 => ?_) (fun h1 => ?_)
    · rw [if_pos h1] at hF
      refine am_Rr.go 2 (σ' := (61, [some (.ref 27), some (.ref 34), some (.int v2)], [.int 0, .ref 27], x)) rfl ?_
      refine am_Rr.chk (σ' := (64, [some (.ref 27), some (.ref 34), some (.int v2)], [], (am_uI x 871 0))) rfl (by first | exact Or.inl rfl | exact Or.inr rfl) ?_
      refine am_Rr.go 1 (σ' := (65, [some (.ref 27), some (.ref 34), some (.int v2)], [.int 0], (am_uI x 871 0))) rfl ?_
      obtain rfl := Option.some.inj hF
      exact am_Rr.ret (v := some (.int 0)) (x := (am_uI x 871 0)) rfl (by trivial) ⟨rfl, rfl⟩
    · rw [if_neg h1] at hF
      refine am_Rr.go 3 (σ' := (if (x.1 871) = 0 then 53 else 15, [some (.ref 27), some (.ref 34), some (.int v2)], [], x)) rfl ?_
      refine am_Rr.ite (fun h3 => ?_) (fun h3 => ?_)
      · rw [if_pos h3] at hF
        refine am_Rr.go 2 (σ' := (2, [some (.ref 27), some (.ref 34), some (.int (v2 + 1))], [], x)) rfl ?_
        exact ih _ _ hF
      · rw [if_neg h3] at hF
        refine am_Rr.go 5 (σ' := (if (x.1 869) ≤ (x.1 870) then 53 else 26, [some (.ref 27), some (.ref 34), some (.int v2)], [], x)) rfl ?_
        refine am_Rr.ite (fun h4 => ?_) (fun h4 => ?_)
        · rw [if_pos h4] at hF
          refine am_Rr.go 2 (σ' := (2, [some (.ref 27), some (.ref 34), some (.int (v2 + 1))], [], x)) rfl ?_
          exact ih _ _ hF
        · rw [if_neg h4] at hF
          refine am_Rr.go 4 (σ' := (34, [some (.ref 27), some (.ref 34), some (.int v2)], [.int (x.1 870), .ref 31], x)) rfl ?_
          by_cases c5 : 0 ≤ (x.1 870).toInt ∧ (x.1 870).toInt < 96
          · rw [if_pos c5] at hF
            refine am_Rr.chk (σ' := (35, [some (.ref 27), some (.ref 34), some (.int v2)], [.int ((x.2.2.1 31) (x.1 870).toNatClampNeg)], x)) rfl (by exact vp_in_iff.mpr c5) ?_
            refine am_Rr.go 2 (σ' := (37, [some (.ref 27), some (.ref 34), some (.int v2)], [.int v2, .ref 34, .int ((x.2.2.1 31) (x.1 870).toNatClampNeg)], x)) rfl ?_
            by_cases c6 : 0 ≤ v2.toInt ∧ v2.toInt < 5
            · rw [if_pos c6] at hF
              refine am_Rr.chk (σ' := (38, [some (.ref 27), some (.ref 34), some (.int v2)], [.int ((x.2.2.1 34) v2.toNatClampNeg), .int ((x.2.2.1 31) (x.1 870).toNatClampNeg)], x)) rfl (by exact vp_in_iff.mpr c6) ?_
              refine am_Rr.go 1 (σ' := (if ((x.2.2.1 31) (x.1 870).toNatClampNeg) = ((x.2.2.1 34) v2.toNatClampNeg) then 41 else 53, [some (.ref 27), some (.ref 34), some (.int v2)], [], x)) rfl ?_
              refine am_Rr.ite (fun h7 => ?_) (fun h7 => ?_)
              · rw [if_pos h7] at hF
                refine am_Rr.go 7 (σ' := (52, [some (.ref 27), some (.ref 34), some (.int v2)], [.int v2], (am_uI x 870 ((x.1 870) + 1)))) rfl ?_
                obtain rfl := Option.some.inj hF
                exact am_Rr.ret (v := some (.int v2)) (x := (am_uI x 870 ((x.1 870) + 1))) rfl (by trivial) ⟨rfl, rfl⟩
              · rw [if_neg h7] at hF
                refine am_Rr.go 2 (σ' := (2, [some (.ref 27), some (.ref 34), some (.int (v2 + 1))], [], x)) rfl ?_
                exact ih _ _ hF
            · rw [if_neg c6] at hF
              cases hF
          · rw [if_neg c5] at hF
            cases hF
noncomputable def G_X8_oneOf_34  (x : am_X) : Option (Int32 × am_X) := L_X8_oneOf_34_2 1000 (0 : Int32) x
theorem A_X8_oneOf_34 (d : Nat)  {x : am_X} {res : Int32 × am_X} (hF : G_X8_oneOf_34  x = some res) : am_T (d + 2) mX8_oneOf [.ref 27, .ref 34] x (fun ro y => ro = some (.int res.1) ∧ res.2 = y) := by
  refine am_T.of rfl ?_
  show am_Rr (d + 1) kX8_oneOf (0, [some (.ref 27), some (.ref 34), none], [], x) _
  unfold G_X8_oneOf_34 at hF
  refine am_Rr.go 2 (σ' := (2, [some (.ref 27), some (.ref 34), some (.int 0)], [], x)) rfl ?_
  exact L_X8_oneOf_34_2_ok d res _ _ _ hF
noncomputable def L_X8_figures_4 : Nat → Int32 → Int32 → Int32 → am_X → Option (Int32 × Int32 × Int32 × am_X)
  | 0, _, _, _, _ => none
  | n + 1, v1, v2, v3, x => (if v1 ≤ v3 then some (v1, v2, v3, x) else (if (x.1 871) = 0 then L_X8_figures_4 n v1 v2 (v3 + 1) (am_uI x 871 0) else (if (x.1 869) ≤ (x.1 870) then L_X8_figures_4 n v1 v2 (v3 + 1) (am_uI x 871 0) else (if 0 ≤ (x.1 870).toInt ∧ (x.1 870).toInt < 96 then (if ((x.2.2.1 31) (x.1 870).toNatClampNeg) < 48 then L_X8_figures_4 n v1 v2 (v3 + 1) (am_uI x 871 0) else (if (57 : Int32) < ((x.2.2.1 31) (x.1 870).toNatClampNeg) then L_X8_figures_4 n v1 v2 (v3 + 1) (am_uI x 871 0) else L_X8_figures_4 n v1 ((((10 : Int32) * v2) + ((x.2.2.1 31) (x.1 870).toNatClampNeg)) - 48) (v3 + 1) (am_uI x 870 ((x.1 870) + 1)))) else none))))
theorem L_X8_figures_4_ok (d : Nat) (post : Option Value → am_X → Prop) (w1 : Int32) (w2 : Int32) (w3 : Int32) (y : am_X) : ∀ (n : Nat) (v1 : Int32) (v2 : Int32) (v3 : Int32) (x : am_X), L_X8_figures_4 n v1 v2 v3 x = some (w1, w2, w3, y) → am_Rr (d + 1) kX8_figures (97, [some (.ref 27), some (.int w1), some (.int w2), some (.int w3)], [], y) post → am_Rr (d + 1) kX8_figures (4, [some (.ref 27), some (.int v1), some (.int v2), some (.int v3)], [], x) post := by
  intro n
  induction n with
  | zero =>
    intro v1 v2 v3 x hF
    cases hF
  | succ n ih =>
    intro v1 v2 v3 x hF hk
    rw [L_X8_figures_4] at hF
    refine am_Rr.go 3 (σ' := (if v1 ≤ v3 then 97 else 9, [some (.ref 27), some (.int v1), some (.int v2), some (.int v3)], [], x)) rfl ?_
    refine am_Rr.ite (fun h1 => ?_) (fun h1 => ?_)
    · rw [if_pos h1] at hF
      cases hF
      exact hk
    · rw [if_neg h1] at hF
      refine am_Rr.go 3 (σ' := (if (x.1 871) = 0 then 86 else 16, [some (.ref 27), some (.int v1), some (.int v2), some (.int v3)], [], x)) rfl ?_
      refine am_Rr.ite (fun h2 => ?_) (fun h2 => ?_)
      · rw [if_pos h2] at hF
        refine am_Rr.go 2 (σ' := (88, [some (.ref 27), some (.int v1), some (.int v2), some (.int v3)], [.int 0, .ref 27], x)) rfl ?_
        refine am_Rr.chk (σ' := (91, [some (.ref 27), some (.int v1), some (.int v2), some (.int v3)], [], (am_uI x 871 0))) rfl (by first | exact Or.inl rfl | exact Or.inr rfl) ?_
        refine am_Rr.go 2 (σ' := (4, [some (.ref 27), some (.int v1), some (.int v2), some (.int (v3 + 1))], [], (am_uI x 871 0))) rfl ?_
        exact ih _ _ _ _ hF hk
      · rw [if_neg h2] at hF
        refine am_Rr.go 5 (σ' := (if (x.1 869) ≤ (x.1 870) then 86 else 27, [some (.ref 27), some (.int v1), some (.int v2), some (.int v3)], [], x)) rfl ?_
        refine am_Rr.ite (fun h4 => ?_) (fun h4 => ?_)
        · rw [if_pos h4] at hF
          refine am_Rr.go 2 (σ' := (88, [some (.ref 27), some (.int v1), some (.int v2), some (.int v3)], [.int 0, .ref 27], x)) rfl ?_
          refine am_Rr.chk (σ' := (91, [some (.ref 27), some (.int v1), some (.int v2), some (.int v3)], [], (am_uI x 871 0))) rfl (by first | exact Or.inl rfl | exact Or.inr rfl) ?_
          refine am_Rr.go 2 (σ' := (4, [some (.ref 27), some (.int v1), some (.int v2), some (.int (v3 + 1))], [], (am_uI x 871 0))) rfl ?_
          exact ih _ _ _ _ hF hk
        · rw [if_neg h4] at hF
          refine am_Rr.go 4 (σ' := (35, [some (.ref 27), some (.int v1), some (.int v2), some (.int v3)], [.int (x.1 870), .ref 31], x)) rfl ?_
          by_cases c6 : 0 ≤ (x.1 870).toInt ∧ (x.1 870).toInt < 96
          · rw [if_pos c6] at hF
            refine am_Rr.chk (σ' := (36, [some (.ref 27), some (.int v1), some (.int v2), some (.int v3)], [.int ((x.2.2.1 31) (x.1 870).toNatClampNeg)], x)) rfl (by exact vp_in_iff.mpr c6) ?_
            refine am_Rr.go 2 (σ' := (if ((x.2.2.1 31) (x.1 870).toNatClampNeg) < 48 then 86 else 41, [some (.ref 27), some (.int v1), some (.int v2), some (.int v3)], [], x)) rfl ?_
            refine am_Rr.ite (fun h7 => ?_) (fun h7 => ?_)
            · rw [if_pos h7] at hF
              refine am_Rr.go 2 (σ' := (88, [some (.ref 27), some (.int v1), some (.int v2), some (.int v3)], [.int 0, .ref 27], x)) rfl ?_
              refine am_Rr.chk (σ' := (91, [some (.ref 27), some (.int v1), some (.int v2), some (.int v3)], [], (am_uI x 871 0))) rfl (by first | exact Or.inl rfl | exact Or.inr rfl) ?_
              refine am_Rr.go 2 (σ' := (4, [some (.ref 27), some (.int v1), some (.int v2), some (.int (v3 + 1))], [], (am_uI x 871 0))) rfl ?_
              exact ih _ _ _ _ hF hk
            · rw [if_neg h7] at hF
              refine am_Rr.go 4 (σ' := (49, [some (.ref 27), some (.int v1), some (.int v2), some (.int v3)], [.int (x.1 870), .ref 31], x)) rfl ?_
              refine am_Rr.chk (σ' := (50, [some (.ref 27), some (.int v1), some (.int v2), some (.int v3)], [.int ((x.2.2.1 31) (x.1 870).toNatClampNeg)], x)) rfl (by exact vp_in_iff.mpr c6) ?_
              refine am_Rr.go 2 (σ' := (if (57 : Int32) < ((x.2.2.1 31) (x.1 870).toNatClampNeg) then 86 else 55, [some (.ref 27), some (.int v1), some (.int v2), some (.int v3)], [], x)) rfl ?_
              refine am_Rr.ite (fun h9 => ?_) (fun h9 => ?_)
              · rw [if_pos h9] at hF
                refine am_Rr.go 2 (σ' := (88, [some (.ref 27), some (.int v1), some (.int v2), some (.int v3)], [.int 0, .ref 27], x)) rfl ?_
                refine am_Rr.chk (σ' := (91, [some (.ref 27), some (.int v1), some (.int v2), some (.int v3)], [], (am_uI x 871 0))) rfl (by first | exact Or.inl rfl | exact Or.inr rfl) ?_
                refine am_Rr.go 2 (σ' := (4, [some (.ref 27), some (.int v1), some (.int v2), some (.int (v3 + 1))], [], (am_uI x 871 0))) rfl ?_
                exact ih _ _ _ _ hF hk
              · rw [if_neg h9] at hF
                refine am_Rr.go 7 (σ' := (67, [some (.ref 27), some (.int v1), some (.int v2), some (.int v3)], [.int (x.1 870), .ref 31, .int ((10 : Int32) * v2)], x)) rfl ?_
                refine am_Rr.chk (σ' := (68, [some (.ref 27), some (.int v1), some (.int v2), some (.int v3)], [.int ((x.2.2.1 31) (x.1 870).toNatClampNeg), .int ((10 : Int32) * v2)], x)) rfl (by exact vp_in_iff.mpr c6) ?_
                refine am_Rr.go 13 (σ' := (4, [some (.ref 27), some (.int v1), some (.int ((((10 : Int32) * v2) + ((x.2.2.1 31) (x.1 870).toNatClampNeg)) - 48)), some (.int (v3 + 1))], [], (am_uI x 870 ((x.1 870) + 1)))) rfl ?_
                exact ih _ _ _ _ hF hk
          · rw [if_neg c6] at hF
            cases hF
noncomputable def G_X8_figures (a : Int32) (x : am_X) : Option (Int32 × am_X) := (match L_X8_figures_4 1000 a (0 : Int32) (0 : Int32) x with | none => none | some (v12, v13, v14, x11) => some (v13, x11))
theorem A_X8_figures (d : Nat) {a : Int32} {x : am_X} {res : Int32 × am_X} (hF : G_X8_figures a x = some res) : am_T (d + 2) mX8_figures [.ref 27, .int a] x (fun ro y => ro = some (.int res.1) ∧ res.2 = y) := by
  refine am_T.of rfl ?_
  show am_Rr (d + 1) kX8_figures (0, [some (.ref 27), some (.int a), none, none], [], x) _
  unfold G_X8_figures at hF
  refine am_Rr.go 4 (σ' := (4, [some (.ref 27), some (.int a), some (.int 0), some (.int 0)], [], x)) rfl ?_
  cases g15 : L_X8_figures_4 1000 a (0 : Int32) (0 : Int32) x with
  | none => rw [g15] at hF; cases hF
  | some q_ =>
    obtain ⟨v12, v13, v14, x11⟩ := q_
    rw [g15] at hF
    dsimp only at hF
    refine L_X8_figures_4_ok d _ v12 v13 v14 x11 _ _ _ _ _ g15 ?_
    refine am_Rr.go 1 (σ' := (98, [some (.ref 27), some (.int v12), some (.int v13), some (.int v14)], [.int v13], x11)) rfl ?_
    obtain rfl := Option.some.inj hF
    exact am_Rr.ret (v := some (.int v13)) (x := x11) rfl (by trivial) ⟨rfl, rfl⟩
