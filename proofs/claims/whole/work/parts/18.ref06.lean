noncomputable def L_X8_read_12 : Nat → Int32 → am_X → Option (Int32 × am_X)
  | 0, _, _ => none
  | n + 1, v1, x => (match G_X8_statement  x with | none => none | some (_, x3) => (if (x3.1 871) = 0 then some ((v1 + 1), x3) else (if (x3.1 870) < (x3.1 869) then L_X8_read_12 n (v1 + 1) x3 else some ((v1 + 1), x3))))
theorem L_X8_read_12_ok (d : Nat) (post : Option Value → am_X → Prop) (w1 : Int32) (y : am_X) : ∀ (n : Nat) (v1 : Int32) (x : am_X), L_X8_read_12 n v1 x = some (w1, y) → am_Rr (d + 3) kX8_read (37, [some (.ref 27), some (.int w1), none], [], y) post → am_Rr (d + 3) kX8_read (12, [some (.ref 27), some (.int v1), none], [], x) post := by
  intro n
  induction n with
  | zero =>
    intro v1 x hF
    cases hF
  | succ n ih =>
    intro v1 x hF hk
    rw [L_X8_read_12] at hF
    refine am_Rr.go 1 (σ' := (13, [some (.ref 27), some (.int v1), none], [.ref 27], x)) rfl ?_
    cases g4 : G_X8_statement  x with
    | none => rw [g4] at hF; cases hF
    | some q_ =>
      obtain ⟨u_, x3⟩ := q_
      rw [g4] at hF
      dsimp only at hF
      refine am_Rr.call (pc := 16) (ls := [some (.ref 27), some (.int v1), none]) (st := []) rfl (A_X8_statement d g4) ?_
      rintro _ _ ⟨rfl, rfl⟩
      show am_Rr _ _ (16, [some (.ref 27), some (.int v1), none], [], x3) _
      refine am_Rr.go 4 (σ' := (if (x3.1 871) = 0 then 37 else 26, [some (.ref 27), some (.int (v1 + 1)), none], [], x3)) rfl ?_
      refine am_Rr.ite (fun h5 => ?_) (fun h5 => ?_)
      · rw [if_pos h5] at hF
        cases hF
        exact hk
      · rw [if_neg h5] at hF
        refine am_Rr.go 5 (σ' := (if (x3.1 870) < (x3.1 869) then 12 else 37, [some (.ref 27), some (.int (v1 + 1)), none], [], x3)) rfl ?_
        refine am_Rr.ite (fun h6 => ?_) (fun h6 => ?_)
        · rw [if_pos h6] at hF
          exact ih _ _ hF hk
        · rw [if_neg h6] at hF
          cases hF
          exact hk
noncomputable def L_X8_read_69 : Nat → Int32 → am_X → Option (Int32 × am_X)
  | 0, _, _ => none
  | n + 1, v1, x => (if (x.1 869) ≤ (x.1 870) then some (v1, x) else (match G_X8_statement  x with | none => none | some (_, x16) => (match G_X8_takes  x16 with | none => none | some (r18, x19) => (if r18 = 0 then (match G_X8_move_36_29  x19 with | none => none | some (_, x23) => some (((-2000 : Int32) - (x.1 870)), x23)) else L_X8_read_69 n v1 x19))))
theorem L_X8_read_69_ok (d : Nat) (res : Int32 × am_X) : ∀ (n : Nat) (v1 : Int32) (x : am_X), L_X8_read_69 n v1 x = some res → am_Rr (d + 3) kX8_read (69, [some (.ref 27), some (.int v1), none], [], x) (fun ro y => ro = some (.int res.1) ∧ res.2 = y) := by
  intro n
  induction n with
  | zero =>
    intro v1 x hF
    cases hF
  | succ n ih =>
    intro v1 x hF
    rw [L_X8_read_69] at hF
    refine am_Rr.go 5 (σ' := (if (x.1 869) ≤ (x.1 870) then 116 else 80, [some (.ref 27), some (.int v1), none], [], x)) rfl ?_
    refine am_Rr.ite (fun h14 => ?_) (fun h14 => ?_)
    · rw [if_pos h14] at hF
      refine am_Rr.go 1 (σ' := (117, [some (.ref 27), some (.int v1), none], [.int v1], x)) rfl ?_
      obtain rfl := Option.some.inj hF
      exact am_Rr.ret (v := some (.int v1)) (x := x) rfl (by trivial) ⟨rfl, rfl⟩
    · rw [if_neg h14] at hF
      refine am_Rr.go 4 (σ' := (86, [some (.ref 27), some (.int v1), some (.int (x.1 870))], [.ref 27], x)) rfl ?_
      cases g17 : G_X8_statement  x with
      | none => rw [g17] at hF; cases hF
      | some q_ =>
        obtain ⟨u_, x16⟩ := q_
        rw [g17] at hF
        dsimp only at hF
        refine am_Rr.call (pc := 89) (ls := [some (.ref 27), some (.int v1), some (.int (x.1 870))]) (st := []) rfl (A_X8_statement d g17) ?_
        rintro _ _ ⟨rfl, rfl⟩
        show am_Rr _ _ (89, [some (.ref 27), some (.int v1), some (.int (x.1 870))], [], x16) _
        refine am_Rr.go 1 (σ' := (90, [some (.ref 27), some (.int v1), some (.int (x.1 870))], [.ref 27], x16)) rfl ?_
        cases g20 : G_X8_takes  x16 with
        | none => rw [g20] at hF; cases hF
        | some q_ =>
          obtain ⟨r18, x19⟩ := q_
          rw [g20] at hF
          dsimp only at hF
          refine am_Rr.call (pc := 93) (ls := [some (.ref 27), some (.int v1), some (.int (x.1 870))]) (st := []) rfl (A_X8_takes d g20) ?_
          rintro _ _ ⟨rfl, rfl⟩
          show am_Rr _ _ (93, [some (.ref 27), some (.int v1), some (.int (x.1 870))], [.int r18], x19) _
          refine am_Rr.go 1 (σ' := (if r18 = 0 then 96 else 113, [some (.ref 27), some (.int v1), some (.int (x.1 870))], [], x19)) rfl ?_
          refine am_Rr.ite (fun h21 => ?_) (fun h21 => ?_)
          · rw [if_pos h21] at hF
            refine am_Rr.go 4 (σ' := (104, [some (.ref 27), some (.int v1), some (.int (x.1 870))], [.ref 29, .ref 36], x19)) rfl ?_
            cases g24 : G_X8_move_36_29  x19 with
            | none => rw [g24] at hF; cases hF
            | some q_ =>
              obtain ⟨u_, x23⟩ := q_
              rw [g24] at hF
              dsimp only at hF
              refine am_Rr.call (pc := 107) (ls := [some (.ref 27), some (.int v1), some (.int (x.1 870))]) (st := []) rfl (A_X8_move_36_29 (d + 1) g24) ?_
              rintro _ _ ⟨rfl, rfl⟩
              show am_Rr _ _ (107, [some (.ref 27), some (.int v1), some (.int (x.1 870))], [], x23) _
              refine am_Rr.go 3 (σ' := (112, [some (.ref 27), some (.int v1), some (.int (x.1 870))], [.int ((-2000 : Int32) - (x.1 870))], x23)) rfl ?_
              obtain rfl := Option.some.inj hF
              exact am_Rr.ret (v := some (.int ((-2000 : Int32) - (x.1 870)))) (x := x23) rfl (by trivial) ⟨rfl, rfl⟩
          · rw [if_neg h21] at hF
            refine am_Rr.go 1 (σ' := (69, [some (.ref 27), some (.int v1), some (.int (x.1 870))], [], x19)) rfl ?_
            refine am_Rr.weak (ls0 := [some (.ref 27), some (.int v1), none]) (by simp [am_le]) ?_
            exact ih _ _ hF
noncomputable def G_X8_read  (x : am_X) : Option (Int32 × am_X) := (match L_X8_read_12 1000 (0 : Int32) (am_uI (am_uI x 870 0) 871 1) with | none => none | some (v8, x7) => (if (x7.1 871) = 0 then some (((-1000 : Int32) - (x7.1 870)), x7) else (match G_X8_move_29_36  (am_uI x7 870 0) with | none => none | some (_, x12) => L_X8_read_69 1000 v8 x12)))
theorem A_X8_read (d : Nat)  {x : am_X} {res : Int32 × am_X} (hF : G_X8_read  x = some res) : am_T (d + 4) mX8_read [.ref 27] x (fun ro y => ro = some (.int res.1) ∧ res.2 = y) := by
  refine am_T.of rfl ?_
  show am_Rr (d + 3) kX8_read (0, [some (.ref 27), none, none], [], x) _
  unfold G_X8_read at hF
  refine am_Rr.go 7 (σ' := (9, [some (.ref 27), some (.int 0), none], [.int 1, .ref 27], (am_uI x 870 0))) rfl ?_
  refine am_Rr.chk (σ' := (12, [some (.ref 27), some (.int 0), none], [], (am_uI (am_uI x 870 0) 871 1))) rfl (by first | exact Or.inl rfl | exact Or.inr rfl) ?_
  cases g9 : L_X8_read_12 1000 (0 : Int32) (am_uI (am_uI x 870 0) 871 1) with
  | none => rw [g9] at hF; cases hF
  | some q_ =>
    obtain ⟨v8, x7⟩ := q_
    rw [g9] at hF
    dsimp only at hF
    refine L_X8_read_12_ok d _ v8 x7 _ _ _ g9 ?_
    refine am_Rr.go 3 (σ' := (if (x7.1 871) = 0 then 44 else 53, [some (.ref 27), some (.int v8), none], [], x7)) rfl ?_
    refine am_Rr.ite (fun h10 => ?_) (fun h10 => ?_)
    · rw [if_pos h10] at hF
      refine am_Rr.go 4 (σ' := (52, [some (.ref 27), some (.int v8), none], [.int ((-1000 : Int32) - (x7.1 870))], x7)) rfl ?_
      obtain rfl := Option.some.inj hF
      exact am_Rr.ret (v := some (.int ((-1000 : Int32) - (x7.1 870)))) (x := x7) rfl (by trivial) ⟨rfl, rfl⟩
    · rw [if_neg h10] at hF
      refine am_Rr.go 7 (σ' := (66, [some (.ref 27), some (.int v8), none], [.ref 36, .ref 29], (am_uI x7 870 0))) rfl ?_
      cases g13 : G_X8_move_29_36  (am_uI x7 870 0) with
      | none => rw [g13] at hF; cases hF
      | some q_ =>
        obtain ⟨u_, x12⟩ := q_
        rw [g13] at hF
        dsimp only at hF
        refine am_Rr.call (pc := 69) (ls := [some (.ref 27), some (.int v8), none]) (st := []) rfl (A_X8_move_29_36 (d + 1) g13) ?_
        rintro _ _ ⟨rfl, rfl⟩
        show am_Rr _ _ (69, [some (.ref 27), some (.int v8), none], [], x12) _
        exact L_X8_read_69_ok d res _ _ _ hF
noncomputable def G_X8_square (a : Int32) (b : Int32) (x : am_X) : Option (Int32 × am_X) := (match G_X8_isNoSquare a x with | none => none | some (r1, x2) => (if r1 = 0 then (match G_X8_kindOf a x2 with | none => none | some (r5, x6) => (if b = 0 then some (r5, x6) else (if b = 1 then (if r5 = 1 then some ((0 : Int32), x6) else some ((1 : Int32), x6)) else (if b = 2 then (if r5 = 1 then some ((0 : Int32), x6) else (if r5 = 5 then some ((0 : Int32), x6) else (match G_X8_off a x6 with | none => none | some (r14, x15) => some (r14, x15)))) else (match G_X8_no (-2 : Int32) x6 with | none => none | some (r17, x18) => some (r17, x18)))))) else (match G_X8_no (-1 : Int32) x2 with | none => none | some (r20, x21) => some (r20, x21))))
theorem A_X8_square (d : Nat) {a : Int32} {b : Int32} {x : am_X} {res : Int32 × am_X} (hF : G_X8_square a b x = some res) : am_T (d + 4) mX8_square [.ref 27, .int a, .int b] x (fun ro y => ro = some (.int res.1) ∧ res.2 = y) := by
  refine am_T.of rfl ?_
  show am_Rr (d + 3) kX8_square (0, [some (.ref 27), some (.int a), some (.int b), none], [], x) _
  unfold G_X8_square at hF
  refine am_Rr.go 1 (σ' := (1, [some (.ref 27), some (.int a), some (.int b), none], [.int a], x)) rfl ?_
  cases g3 : G_X8_isNoSquare a x with
  | none => rw [g3] at hF; cases hF
  | some q_ =>
    obtain ⟨r1, x2⟩ := q_
    rw [g3] at hF
    dsimp only at hF
    refine am_Rr.call (pc := 4) (ls := [some (.ref 27), some (.int a), some (.int b), none]) (st := []) rfl (A_X8_isNoSquare (d + 1) g3) ?_
    rintro _ _ ⟨rfl, rfl⟩
    show am_Rr _ _ (4, [some (.ref 27), some (.int a), some (.int b), none], [.int r1], x2) _
    refine am_Rr.go 1 (σ' := (if r1 = 0 then 13 else 7, [some (.ref 27), some (.int a), some (.int b), none], [], x2)) rfl ?_
    refine am_Rr.ite (fun h4 => ?_) (fun h4 => ?_)
    · rw [if_pos h4] at hF
      refine am_Rr.go 2 (σ' := (15, [some (.ref 27), some (.int a), some (.int b), none], [.int a, .ref 27], x2)) rfl ?_
      cases g7 : G_X8_kindOf a x2 with
      | none => rw [g7] at hF; cases hF
      | some q_ =>
        obtain ⟨r5, x6⟩ := q_
        rw [g7] at hF
        dsimp only at hF
        refine am_Rr.call (pc := 18) (ls := [some (.ref 27), some (.int a), some (.int b), none]) (st := []) rfl (A_X8_kindOf (d + 1) g7) ?_
        rintro _ _ ⟨rfl, rfl⟩
        show am_Rr _ _ (18, [some (.ref 27), some (.int a), some (.int b), none], [.int r5], x6) _
        refine am_Rr.go 3 (σ' := ((if b = 0 then 48 else (if b = 1 then 50 else (if b = 2 then 61 else 81))), [some (.ref 27), some (.int a), some (.int b), some (.int r5)], [], x6)) rfl ?_
        refine am_Rr.ite (fun h8 => ?_) (fun h8 => ?_)
        · rw [if_pos h8] at hF
          refine am_Rr.go 1 (σ' := (49, [some (.ref 27), some (.int a), some (.int b), some (.int r5)], [.int r5], x6)) rfl ?_
          obtain rfl := Option.some.inj hF
          exact am_Rr.ret (v := some (.int r5)) (x := x6) rfl (by trivial) ⟨rfl, rfl⟩
        rw [if_neg h8] at hF
        refine am_Rr.ite (fun h9 => ?_) (fun h9 => ?_)
        · rw [if_pos h9] at hF
          refine am_Rr.go 3 (σ' := (if r5 = 1 then 55 else 59, [some (.ref 27), some (.int a), some (.int b), some (.int r5)], [], x6)) rfl ?_
          refine am_Rr.ite (fun h10 => ?_) (fun h10 => ?_)
          · rw [if_pos h10] at hF
            refine am_Rr.go 2 (σ' := (60, [some (.ref 27), some (.int a), some (.int b), some (.int r5)], [.int 0], x6)) rfl ?_
            obtain rfl := Option.some.inj hF
            exact am_Rr.ret (v := some (.int 0)) (x := x6) rfl (by trivial) ⟨rfl, rfl⟩
          · rw [if_neg h10] at hF
            refine am_Rr.go 1 (σ' := (60, [some (.ref 27), some (.int a), some (.int b), some (.int r5)], [.int 1], x6)) rfl ?_
            obtain rfl := Option.some.inj hF
            exact am_Rr.ret (v := some (.int 1)) (x := x6) rfl (by trivial) ⟨rfl, rfl⟩
        rw [if_neg h9] at hF
        refine am_Rr.ite (fun h11 => ?_) (fun h11 => ?_)
        · rw [if_pos h11] at hF
          refine am_Rr.go 3 (σ' := (if r5 = 1 then 71 else 66, [some (.ref 27), some (.int a), some (.int b), some (.int r5)], [], x6)) rfl ?_
          refine am_Rr.ite (fun h12 => ?_) (fun h12 => ?_)
          · rw [if_pos h12] at hF
            refine am_Rr.go 2 (σ' := (80, [some (.ref 27), some (.int a), some (.int b), some (.int r5)], [.int 0], x6)) rfl ?_
            obtain rfl := Option.some.inj hF
            exact am_Rr.ret (v := some (.int 0)) (x := x6) rfl (by trivial) ⟨rfl, rfl⟩
          · rw [if_neg h12] at hF
            refine am_Rr.go 3 (σ' := (if r5 = 5 then 71 else 75, [some (.ref 27), some (.int a), some (.int b), some (.int r5)], [], x6)) rfl ?_
            refine am_Rr.ite (fun h13 => ?_) (fun h13 => ?_)
            · rw [if_pos h13] at hF
              refine am_Rr.go 2 (σ' := (80, [some (.ref 27), some (.int a), some (.int b), some (.int r5)], [.int 0], x6)) rfl ?_
              obtain rfl := Option.some.inj hF
              exact am_Rr.ret (v := some (.int 0)) (x := x6) rfl (by trivial) ⟨rfl, rfl⟩
            · rw [if_neg h13] at hF
              refine am_Rr.go 2 (σ' := (77, [some (.ref 27), some (.int a), some (.int b), some (.int r5)], [.int a, .ref 27], x6)) rfl ?_
              cases g16 : G_X8_off a x6 with
              | none => rw [g16] at hF; cases hF
              | some q_ =>
                obtain ⟨r14, x15⟩ := q_
                rw [g16] at hF
                dsimp only at hF
                refine am_Rr.call (pc := 80) (ls := [some (.ref 27), some (.int a), some (.int b), some (.int r5)]) (st := []) rfl (A_X8_off d g16) ?_
                rintro _ _ ⟨rfl, rfl⟩
                show am_Rr _ _ (80, [some (.ref 27), some (.int a), some (.int b), some (.int r5)], [.int r14], x15) _
                obtain rfl := Option.some.inj hF
                exact am_Rr.ret (v := some (.int r14)) (x := x15) rfl (by trivial) ⟨rfl, rfl⟩
        rw [if_neg h11] at hF
        refine am_Rr.go 2 (σ' := (84, [some (.ref 27), some (.int a), some (.int b), some (.int r5)], [.int (-2), .ref 27], x6)) rfl ?_
        cases g19 : G_X8_no (-2 : Int32) x6 with
        | none => rw [g19] at hF; cases hF
        | some q_ =>
          obtain ⟨r17, x18⟩ := q_
          rw [g19] at hF
          dsimp only at hF
          refine am_Rr.call (pc := 87) (ls := [some (.ref 27), some (.int a), some (.int b), some (.int r5)]) (st := []) rfl (A_X8_no (d + 1) g19) ?_
          rintro _ _ ⟨rfl, rfl⟩
          show am_Rr _ _ (87, [some (.ref 27), some (.int a), some (.int b), some (.int r5)], [.int r17], x18) _
          obtain rfl := Option.some.inj hF
          exact am_Rr.ret (v := some (.int r17)) (x := x18) rfl (by trivial) ⟨rfl, rfl⟩
    · rw [if_neg h4] at hF
      refine am_Rr.go 2 (σ' := (9, [some (.ref 27), some (.int a), some (.int b), none], [.int (-1), .ref 27], x2)) rfl ?_
      cases g22 : G_X8_no (-1 : Int32) x2 with
      | none => rw [g22] at hF; cases hF
      | some q_ =>
        obtain ⟨r20, x21⟩ := q_
        rw [g22] at hF
        dsimp only at hF
        refine am_Rr.call (pc := 12) (ls := [some (.ref 27), some (.int a), some (.int b), none]) (st := []) rfl (A_X8_no (d + 1) g22) ?_
        rintro _ _ ⟨rfl, rfl⟩
        show am_Rr _ _ (12, [some (.ref 27), some (.int a), some (.int b), none], [.int r20], x21) _
        obtain rfl := Option.some.inj hF
        exact am_Rr.ret (v := some (.int r20)) (x := x21) rfl (by trivial) ⟨rfl, rfl⟩
noncomputable def L_X8_walkFrom_2 : Nat → Int32 → Int32 → am_X → Option (Int32 × Int32 × am_X)
  | 0, _, _, _ => none
  | n + 1, v1, v2, x => (if (36 : Int32) ≤ v2 then some (v1, v2, x) else (if v2 = v1 then (if 0 ≤ v2.toInt ∧ v2.toInt < 36 then (if ((x.2.2.1 37) v2.toNatClampNeg) = 0 then L_X8_walkFrom_2 n v1 (v2 + 1) (am_sA x 38 (upd (x.2.2.1 38) v2.toNatClampNeg 0)) else L_X8_walkFrom_2 n v1 (v2 + 1) (am_sA x 38 (upd (x.2.2.1 38) v2.toNatClampNeg 100000))) else none) else (if 0 ≤ v2.toInt ∧ v2.toInt < 36 then L_X8_walkFrom_2 n v1 (v2 + 1) (am_sA x 38 (upd (x.2.2.1 38) v2.toNatClampNeg 100000)) else none)))
theorem L_X8_walkFrom_2_ok (d : Nat) (post : Option Value → am_X → Prop) (w1 : Int32) (w2 : Int32) (y : am_X) : ∀ (n : Nat) (v1 : Int32) (v2 : Int32) (x : am_X), L_X8_walkFrom_2 n v1 v2 x = some (w1, w2, y) → am_Rr (d + 3) kX8_walkFrom (40, [some (.ref 27), some (.int w1), some (.int w2), none, none, none], [], y) post → am_Rr (d + 3) kX8_walkFrom (2, [some (.ref 27), some (.int v1), some (.int v2), none, none, none], [], x) post := by
  intro n
  induction n with
  | zero =>
    intro v1 v2 x hF
    cases hF
  | succ n ih =>
    intro v1 v2 x hF hk
    rw [L_X8_walkFrom_2] at hF
    refine am_Rr.go 3 (σ' := (if (36 : Int32) ≤ v2 then 40 else 8, [some (.ref 27), some (.int v1), some (.int v2), none, none, none], [], x)) rfl ?_
    refine am_Rr.ite (fun h1 => ?_) (fun h1 => ?_)
    · rw [if_pos h1] at hF
      cases hF
      exact hk
    · rw [if_neg h1] at hF
      refine am_Rr.go 6 (σ' := (if v2 = v1 then 18 else 31, [some (.ref 27), some (.int v1), some (.int v2), none, none, none], [.int v2, .ref 38], x)) rfl ?_
      refine am_Rr.ite (fun h2 => ?_) (fun h2 => ?_)
      · rw [if_pos h2] at hF
        refine am_Rr.go 3 (σ' := (23, [some (.ref 27), some (.int v1), some (.int v2), none, none, none], [.int v2, .ref 37, .int v2, .ref 38], x)) rfl ?_
        by_cases c3 : 0 ≤ v2.toInt ∧ v2.toInt < 36
        · rw [if_pos c3] at hF
          refine am_Rr.chk (σ' := (24, [some (.ref 27), some (.int v1), some (.int v2), none, none, none], [.int ((x.2.2.1 37) v2.toNatClampNeg), .int v2, .ref 38], x)) rfl (by exact vp_in_iff.mpr c3) ?_
          refine am_Rr.go 1 (σ' := (if ((x.2.2.1 37) v2.toNatClampNeg) = 0 then 27 else 31, [some (.ref 27), some (.int v1), some (.int v2), none, none, none], [.int v2, .ref 38], x)) rfl ?_
          refine am_Rr.ite (fun h4 => ?_) (fun h4 => ?_)
          · rw [if_pos h4] at hF
            refine am_Rr.go 2 (σ' := (33, [some (.ref 27), some (.int v1), some (.int v2), none, none, none], [.int 0, .int v2, .ref 38], x)) rfl ?_
            refine am_Rr.chk (σ' := (34, [some (.ref 27), some (.int v1), some (.int v2), none, none, none], [], (am_sA x 38 (upd (x.2.2.1 38) v2.toNatClampNeg 0)))) rfl (by exact vp_in_iff.mpr c3) ?_
            refine am_Rr.go 2 (σ' := (2, [some (.ref 27), some (.int v1), some (.int (v2 + 1)), none, none, none], [], (am_sA x 38 (upd (x.2.2.1 38) v2.toNatClampNeg 0)))) rfl ?_
            exact ih _ _ _ hF hk
          · rw [if_neg h4] at hF
            refine am_Rr.go 1 (σ' := (33, [some (.ref 27), some (.int v1), some (.int v2), none, none, none], [.int 100000, .int v2, .ref 38], x)) rfl ?_
            refine am_Rr.chk (σ' := (34, [some (.ref 27), some (.int v1), some (.int v2), none, none, none], [], (am_sA x 38 (upd (x.2.2.1 38) v2.toNatClampNeg 100000)))) rfl (by exact vp_in_iff.mpr c3) ?_
            refine am_Rr.go 2 (σ' := (2, [some (.ref 27), some (.int v1), some (.int (v2 + 1)), none, none, none], [], (am_sA x 38 (upd (x.2.2.1 38) v2.toNatClampNeg 100000)))) rfl ?_
            exact ih _ _ _ hF hk
        · rw [if_neg c3] at hF
          cases hF
      · rw [if_neg h2] at hF
        refine am_Rr.go 1 (σ' := (33, [some (.ref 27), some (.int v1), some (.int v2), none, none, none], [.int 100000, .int v2, .ref 38], x)) rfl ?_
        by_cases c5 : 0 ≤ v2.toInt ∧ v2.toInt < 36
        · rw [if_pos c5] at hF
          refine am_Rr.chk (σ' := (34, [some (.ref 27), some (.int v1), some (.int v2), none, none, none], [], (am_sA x 38 (upd (x.2.2.1 38) v2.toNatClampNeg 100000)))) rfl (by exact vp_in_iff.mpr c5) ?_
          refine am_Rr.go 2 (σ' := (2, [some (.ref 27), some (.int v1), some (.int (v2 + 1)), none, none, none], [], (am_sA x 38 (upd (x.2.2.1 38) v2.toNatClampNeg 100000)))) rfl ?_
          exact ih _ _ _ hF hk
        · rw [if_neg c5] at hF
          cases hF
noncomputable def L_X8_walkFrom_59 : Nat → Int32 → Int32 → Int32 → am_X → Option (Int32 × Int32 × Int32 × am_X)
  | 0, _, _, _, _ => none
  | n + 1, v2, v3, v4, x => (if (4 : Int32) ≤ v4 then some (v2, v3, v4, x) else (if 0 ≤ v3.toInt ∧ v3.toInt < 36 then (if (100000 : Int32) ≤ ((x.2.2.1 38) v3.toNatClampNeg) then some (v2, v3, v4, x) else (match G_X8_kindOf v3 x with | none => none | some (r15, x16) => (if r15 = 5 then some (v2, v3, v4, x16) else (match G_X8_beside v3 v4 x16 with | none => none | some (r19, x20) => (if r19 = (-9) then L_X8_walkFrom_59 n v2 v3 (v4 + 1) x20 else (match G_X8_canBe r19 x20 with | none => none | some (r23, x24) => (if r23 = 0 then L_X8_walkFrom_59 n v2 v3 (v4 + 1) x24 else (match G_X8_off v3 x24 with | none => none | some (r27, x28) => (if 0 ≤ r19.toInt ∧ r19.toInt < 36 then (if ((x28.2.2.1 38) r19.toNatClampNeg) ≤ (((x24.2.2.1 38) v3.toNatClampNeg) + r27) then L_X8_walkFrom_59 n v2 v3 (v4 + 1) x28 else (match G_X8_off v3 x28 with | none => none | some (r32, x33) => L_X8_walkFrom_59 n (1 : Int32) v3 (v4 + 1) (am_sA x33 38 (upd (x33.2.2.1 38) r19.toNatClampNeg (((x28.2.2.1 38) v3.toNatClampNeg) + r32))))) else none))))))))) else none))
theorem L_X8_walkFrom_59_ok (d : Nat) (post : Option Value → am_X → Prop) (w2 : Int32) (w3 : Int32) (w4 : Int32) (y : am_X) : ∀ (n : Nat) (v2 : Int32) (v3 : Int32) (v4 : Int32) (x : am_X), L_X8_walkFrom_59 n v2 v3 v4 x = some (w2, w3, w4, y) → am_Rr (d + 3) kX8_walkFrom (158, [some (.ref 27), none, some (.int w2), some (.int w3), some (.int w4), none], [], y) post → am_Rr (d + 3) kX8_walkFrom (59, [some (.ref 27), none, some (.int v2), some (.int v3), some (.int v4), none], [], x) post := by
  intro n
  induction n with
  | zero =>
    intro v2 v3 v4 x hF
    cases hF
  | succ n ih =>
    intro v2 v3 v4 x hF hk
    rw [L_X8_walkFrom_59] at hF
    refine am_Rr.go 3 (σ' := (if (4 : Int32) ≤ v4 then 158 else 65, [some (.ref 27), none, some (.int v2), some (.int v3), some (.int v4), none], [], x)) rfl ?_
    refine am_Rr.ite (fun h12 => ?_) (fun h12 => ?_)
    · rw [if_pos h12] at hF
      cases hF
      exact hk
    · rw [if_neg h12] at hF
      refine am_Rr.go 3 (σ' := (70, [some (.ref 27), none, some (.int v2), some (.int v3), some (.int v4), none], [.int v3, .ref 38], x)) rfl ?_
      by_cases c13 : 0 ≤ v3.toInt ∧ v3.toInt < 36
      · rw [if_pos c13] at hF
        refine am_Rr.chk (σ' := (71, [some (.ref 27), none, some (.int v2), some (.int v3), some (.int v4), none], [.int ((x.2.2.1 38) v3.toNatClampNeg)], x)) rfl (by exact vp_in_iff.mpr c13) ?_
        refine am_Rr.go 2 (σ' := (if (100000 : Int32) ≤ ((x.2.2.1 38) v3.toNatClampNeg) then 158 else 76, [some (.ref 27), none, some (.int v2), some (.int v3), some (.int v4), none], [], x)) rfl ?_
        refine am_Rr.ite (fun h14 => ?_) (fun h14 => ?_)
        · rw [if_pos h14] at hF
          cases hF
          exact hk
        · rw [if_neg h14] at hF
          refine am_Rr.go 2 (σ' := (78, [some (.ref 27), none, some (.int v2), some (.int v3), some (.int v4), none], [.int v3, .ref 27], x)) rfl ?_
          cases g17 : G_X8_kindOf v3 x with
          | none => rw [g17] at hF; cases hF
          | some q_ =>
            obtain ⟨r15, x16⟩ := q_
            rw [g17] at hF
            dsimp only at hF
            refine am_Rr.call (pc := 81) (ls := [some (.ref 27), none, some (.int v2), some (.int v3), some (.int v4), none]) (st := []) rfl (A_X8_kindOf (d + 1) g17) ?_
            rintro _ _ ⟨rfl, rfl⟩
            show am_Rr _ _ (81, [some (.ref 27), none, some (.int v2), some (.int v3), some (.int v4), none], [.int r15], x16) _
            refine am_Rr.go 2 (σ' := (if r15 = 5 then 158 else 85, [some (.ref 27), none, some (.int v2), some (.int v3), some (.int v4), none], [], x16)) rfl ?_
            refine am_Rr.ite (fun h18 => ?_) (fun h18 => ?_)
            · rw [if_pos h18] at hF
              cases hF
              exact hk
            · rw [if_neg h18] at hF
              refine am_Rr.go 2 (σ' := (88, [some (.ref 27), none, some (.int v2), some (.int v3), some (.int v4), none], [.int v4, .int v3], x16)) rfl ?_
              cases g21 : G_X8_beside v3 v4 x16 with
              | none => rw [g21] at hF; cases hF
              | some q_ =>
                obtain ⟨r19, x20⟩ := q_
                rw [g21] at hF
                dsimp only at hF
                refine am_Rr.call (pc := 91) (ls := [some (.ref 27), none, some (.int v2), some (.int v3), some (.int v4), none]) (st := []) rfl (A_X8_beside (d + 1) g21) ?_
                rintro _ _ ⟨rfl, rfl⟩
                show am_Rr _ _ (91, [some (.ref 27), none, some (.int v2), some (.int v3), some (.int v4), none], [.int r19], x20) _
                refine am_Rr.go 4 (σ' := (if r19 = (-9) then 152 else 100, [some (.ref 27), none, some (.int v2), some (.int v3), some (.int v4), some (.int r19)], [], x20)) rfl ?_
                refine am_Rr.ite (fun h22 => ?_) (fun h22 => ?_)
                · rw [if_pos h22] at hF
                  refine am_Rr.go 2 (σ' := (59, [some (.ref 27), none, some (.int v2), some (.int v3), some (.int (v4 + 1)), some (.int r19)], [], x20)) rfl ?_
                  refine am_Rr.weak (ls0 := [some (.ref 27), none, some (.int v2), some (.int v3), some (.int (v4 + 1)), none]) (by simp [am_le]) ?_
                  exact ih _ _ _ _ hF hk
                · rw [if_neg h22] at hF
                  refine am_Rr.go 2 (σ' := (103, [some (.ref 27), none, some (.int v2), some (.int v3), some (.int v4), some (.int r19)], [.int r19, .ref 27], x20)) rfl ?_
                  cases g25 : G_X8_canBe r19 x20 with
                  | none => rw [g25] at hF; cases hF
                  | some q_ =>
                    obtain ⟨r23, x24⟩ := q_
                    rw [g25] at hF
                    dsimp only at hF
                    refine am_Rr.call (pc := 106) (ls := [some (.ref 27), none, some (.int v2), some (.int v3), some (.int v4), some (.int r19)]) (st := []) rfl (A_X8_canBe d g25) ?_
                    rintro _ _ ⟨rfl, rfl⟩
                    show am_Rr _ _ (106, [some (.ref 27), none, some (.int v2), some (.int v3), some (.int v4), some (.int r19)], [.int r23], x24) _
                    refine am_Rr.go 1 (σ' := (if r23 = 0 then 152 else 109, [some (.ref 27), none, some (.int v2), some (.int v3), some (.int v4), some (.int r19)], [], x24)) rfl ?_
                    refine am_Rr.ite (fun h26 => ?_) (fun h26 => ?_)
                    · rw [if_pos h26] at hF
                      refine am_Rr.go 2 (σ' := (59, [some (.ref 27), none, some (.int v2), some (.int v3), some (.int (v4 + 1)), some (.int r19)], [], x24)) rfl ?_
                      refine am_Rr.weak (ls0 := [some (.ref 27), none, some (.int v2), some (.int v3), some (.int (v4 + 1)), none]) (by simp [am_le]) ?_
                      exact ih _ _ _ _ hF hk
                    · rw [if_neg h26] at hF
                      refine am_Rr.go 3 (σ' := (114, [some (.ref 27), none, some (.int v2), some (.int v3), some (.int v4), some (.int r19)], [.int v3, .ref 38], x24)) rfl ?_
                      refine am_Rr.chk (σ' := (115, [some (.ref 27), none, some (.int v2), some (.int v3), some (.int v4), some (.int r19)], [.int ((x24.2.2.1 38) v3.toNatClampNeg)], x24)) rfl (by exact vp_in_iff.mpr c13) ?_
                      refine am_Rr.go 2 (σ' := (117, [some (.ref 27), none, some (.int v2), some (.int v3), some (.int v4), some (.int r19)], [.int v3, .ref 27, .int ((x24.2.2.1 38) v3.toNatClampNeg)], x24)) rfl ?_
                      cases g29 : G_X8_off v3 x24 with
                      | none => rw [g29] at hF; cases hF
                      | some q_ =>
                        obtain ⟨r27, x28⟩ := q_
                        rw [g29] at hF
                        dsimp only at hF
                        refine am_Rr.call (pc := 120) (ls := [some (.ref 27), none, some (.int v2), some (.int v3), some (.int v4), some (.int r19)]) (st := [.int ((x24.2.2.1 38) v3.toNatClampNeg)]) rfl (A_X8_off d g29) ?_
                        rintro _ _ ⟨rfl, rfl⟩
                        show am_Rr _ _ (120, [some (.ref 27), none, some (.int v2), some (.int v3), some (.int v4), some (.int r19)], [.int r27, .int ((x24.2.2.1 38) v3.toNatClampNeg)], x28) _
                        refine am_Rr.go 4 (σ' := (127, [some (.ref 27), none, some (.int v2), some (.int v3), some (.int v4), some (.int r19)], [.int r19, .ref 38, .int (((x24.2.2.1 38) v3.toNatClampNeg) + r27)], x28)) rfl ?_
                        by_cases c30 : 0 ≤ r19.toInt ∧ r19.toInt < 36
                        · rw [if_pos c30] at hF
                          refine am_Rr.chk (σ' := (128, [some (.ref 27), none, some (.int v2), some (.int v3), some (.int v4), some (.int r19)], [.int ((x28.2.2.1 38) r19.toNatClampNeg), .int (((x24.2.2.1 38) v3.toNatClampNeg) + r27)], x28)) rfl (by exact vp_in_iff.mpr c30) ?_
                          refine am_Rr.go 1 (σ' := (if ((x28.2.2.1 38) r19.toNatClampNeg) ≤ (((x24.2.2.1 38) v3.toNatClampNeg) + r27) then 152 else 131, [some (.ref 27), none, some (.int v2), some (.int v3), some (.int v4), some (.int r19)], [], x28)) rfl ?_
                          refine am_Rr.ite (fun h31 => ?_) (fun h31 => ?_)
                          · rw [if_pos h31] at hF
                            refine am_Rr.go 2 (σ' := (59, [some (.ref 27), none, some (.int v2), some (.int v3), some (.int (v4 + 1)), some (.int r19)], [], x28)) rfl ?_
                            refine am_Rr.weak (ls0 := [some (.ref 27), none, some (.int v2), some (.int v3), some (.int (v4 + 1)), none]) (by simp [am_le]) ?_
                            exact ih _ _ _ _ hF hk
                          · rw [if_neg h31] at hF
                            refine am_Rr.go 6 (σ' := (142, [some (.ref 27), none, some (.int v2), some (.int v3), some (.int v4), some (.int r19)], [.int v3, .ref 38, .int r19, .ref 38], x28)) rfl ?_
                            refine am_Rr.chk (σ' := (143, [some (.ref 27), none, some (.int v2), some (.int v3), some (.int v4), some (.int r19)], [.int ((x28.2.2.1 38) v3.toNatClampNeg), .int r19, .ref 38], x28)) rfl (by exact vp_in_iff.mpr c13) ?_
                            refine am_Rr.go 2 (σ' := (145, [some (.ref 27), none, some (.int v2), some (.int v3), some (.int v4), some (.int r19)], [.int v3, .ref 27, .int ((x28.2.2.1 38) v3.toNatClampNeg), .int r19, .ref 38], x28)) rfl ?_
                            cases g34 : G_X8_off v3 x28 with
                            | none => rw [g34] at hF; cases hF
                            | some q_ =>
                              obtain ⟨r32, x33⟩ := q_
                              rw [g34] at hF
                              dsimp only at hF
                              refine am_Rr.call (pc := 148) (ls := [some (.ref 27), none, some (.int v2), some (.int v3), some (.int v4), some (.int r19)]) (st := [.int ((x28.2.2.1 38) v3.toNatClampNeg), .int r19, .ref 38]) rfl (A_X8_off d g34) ?_
                              rintro _ _ ⟨rfl, rfl⟩
                              show am_Rr _ _ (148, [some (.ref 27), none, some (.int v2), some (.int v3), some (.int v4), some (.int r19)], [.int r32, .int ((x28.2.2.1 38) v3.toNatClampNeg), .int r19, .ref 38], x33) _
                              refine am_Rr.go 1 (σ' := (149, [some (.ref 27), none, some (.int v2), some (.int v3), some (.int v4), some (.int r19)], [.int (((x28.2.2.1 38) v3.toNatClampNeg) + r32), .int r19, .ref 38], x33)) rfl ?_
                              refine am_Rr.chk (σ' := (150, [some (.ref 27), none, some (.int v2), some (.int v3), some (.int v4), some (.int r19)], [], (am_sA x33 38 (upd (x33.2.2.1 38) r19.toNatClampNeg (((x28.2.2.1 38) v3.toNatClampNeg) + r32))))) rfl (by exact vp_in_iff.mpr c30) ?_
                              refine am_Rr.go 4 (σ' := (59, [some (.ref 27), none, some (.int 1), some (.int v3), some (.int (v4 + 1)), some (.int r19)], [], (am_sA x33 38 (upd (x33.2.2.1 38) r19.toNatClampNeg (((x28.2.2.1 38) v3.toNatClampNeg) + r32))))) rfl ?_
                              refine am_Rr.weak (ls0 := [some (.ref 27), none, some (.int 1), some (.int v3), some (.int (v4 + 1)), none]) (by simp [am_le]) ?_
                              exact ih _ _ _ _ hF hk
                        · rw [if_neg c30] at hF
                          cases hF
      · rw [if_neg c13] at hF
        cases hF
noncomputable def L_X8_walkFrom_50 : Nat → Int32 → Int32 → am_X → Option (Int32 × Int32 × am_X)
  | 0, _, _, _ => none
  | n + 1, v2, v3, x => (if (36 : Int32) ≤ v3 then some (v2, v3, x) else (match L_X8_walkFrom_59 1000 v2 v3 (0 : Int32) x with | none => none | some (v36, v37, v38, x35) => L_X8_walkFrom_50 n v36 (v37 + 1) x35))
theorem L_X8_walkFrom_50_ok (d : Nat) (post : Option Value → am_X → Prop) (w2 : Int32) (w3 : Int32) (y : am_X) : ∀ (n : Nat) (v2 : Int32) (v3 : Int32) (x : am_X), L_X8_walkFrom_50 n v2 v3 x = some (w2, w3, y) → am_Rr (d + 3) kX8_walkFrom (164, [some (.ref 27), none, some (.int w2), some (.int w3), none, none], [], y) post → am_Rr (d + 3) kX8_walkFrom (50, [some (.ref 27), none, some (.int v2), some (.int v3), none, none], [], x) post := by
  intro n
  induction n with
  | zero =>
    intro v2 v3 x hF
    cases hF
  | succ n ih =>
    intro v2 v3 x hF hk
    rw [L_X8_walkFrom_50] at hF
    refine am_Rr.go 3 (σ' := (if (36 : Int32) ≤ v3 then 164 else 56, [some (.ref 27), none, some (.int v2), some (.int v3), none, none], [], x)) rfl ?_
    refine am_Rr.ite (fun h11 => ?_) (fun h11 => ?_)
    · rw [if_pos h11] at hF
      cases hF
      exact hk
    · rw [if_neg h11] at hF
      refine am_Rr.go 2 (σ' := (59, [some (.ref 27), none, some (.int v2), some (.int v3), some (.int 0), none], [], x)) rfl ?_
      cases g39 : L_X8_walkFrom_59 1000 v2 v3 (0 : Int32) x with
      | none => rw [g39] at hF; cases hF
      | some q_ =>
        obtain ⟨v36, v37, v38, x35⟩ := q_
        rw [g39] at hF
        dsimp only at hF
        refine L_X8_walkFrom_59_ok d _ v36 v37 v38 x35 _ _ _ _ _ g39 ?_
        refine am_Rr.go 2 (σ' := (50, [some (.ref 27), none, some (.int v36), some (.int (v37 + 1)), some (.int v38), none], [], x35)) rfl ?_
        refine am_Rr.weak (ls0 := [some (.ref 27), none, some (.int v36), some (.int (v37 + 1)), none, none]) (by simp [am_le]) ?_
        exact ih _ _ _ hF hk
noncomputable def L_X8_walkFrom_42 : Nat → Int32 → am_X → Option (Int32 × am_X)
  | 0, _, _ => none
  | n + 1, v2, x => (if v2 = 0 then some (v2, x) else (match L_X8_walkFrom_50 1000 (0 : Int32) (0 : Int32) x with | none => none | some (v41, v42, x40) => L_X8_walkFrom_42 n v41 x40))
theorem L_X8_walkFrom_42_ok (d : Nat) (post : Option Value → am_X → Prop) (w2 : Int32) (y : am_X) : ∀ (n : Nat) (v2 : Int32) (x : am_X), L_X8_walkFrom_42 n v2 x = some (w2, y) → am_Rr (d + 3) kX8_walkFrom (167, [some (.ref 27), none, some (.int w2), none, none, none], [], y) post → am_Rr (d + 3) kX8_walkFrom (42, [some (.ref 27), none, some (.int v2), none, none, none], [], x) post := by
  intro n
  induction n with
  | zero =>
    intro v2 x hF
    cases hF
  | succ n ih =>
    intro v2 x hF hk
    rw [L_X8_walkFrom_42] at hF
    refine am_Rr.go 2 (σ' := (if v2 = 0 then 167 else 46, [some (.ref 27), none, some (.int v2), none, none, none], [], x)) rfl ?_
    refine am_Rr.ite (fun h10 => ?_) (fun h10 => ?_)
    · rw [if_pos h10] at hF
      cases hF
      exact hk
    · rw [if_neg h10] at hF
      refine am_Rr.go 4 (σ' := (50, [some (.ref 27), none, some (.int 0), some (.int 0), none, none], [], x)) rfl ?_
      cases g43 : L_X8_walkFrom_50 1000 (0 : Int32) (0 : Int32) x with
      | none => rw [g43] at hF; cases hF
      | some q_ =>
        obtain ⟨v41, v42, x40⟩ := q_
        rw [g43] at hF
        dsimp only at hF
        refine L_X8_walkFrom_50_ok d _ v41 v42 x40 _ _ _ _ g43 ?_
        refine am_Rr.go 1 (σ' := (42, [some (.ref 27), none, some (.int v41), some (.int v42), none, none], [], x40)) rfl ?_
        refine am_Rr.weak (ls0 := [some (.ref 27), none, some (.int v41), none, none, none]) (by simp [am_le]) ?_
        exact ih _ _ hF hk
noncomputable def G_X8_walkFrom (a : Int32) (x : am_X) : Option (Unit × am_X) := (match L_X8_walkFrom_2 1000 a (0 : Int32) x with | none => none | some (v7, v8, x6) => (match L_X8_walkFrom_42 3600003 (1 : Int32) x6 with | none => none | some (v45, x44) => some ((), x44)))
theorem A_X8_walkFrom (d : Nat) {a : Int32} {x : am_X} {res : Unit × am_X} (hF : G_X8_walkFrom a x = some res) : am_T (d + 4) mX8_walkFrom [.ref 27, .int a] x (fun ro y => ro = none ∧ res.2 = y) := by
  refine am_T.of rfl ?_
  show am_Rr (d + 3) kX8_walkFrom (0, [some (.ref 27), some (.int a), none, none, none, none], [], x) _
  unfold G_X8_walkFrom at hF
  refine am_Rr.go 2 (σ' := (2, [some (.ref 27), some (.int a), some (.int 0), none, none, none], [], x)) rfl ?_
  cases g9 : L_X8_walkFrom_2 1000 a (0 : Int32) x with
  | none => rw [g9] at hF; cases hF
  | some q_ =>
    obtain ⟨v7, v8, x6⟩ := q_
    rw [g9] at hF
    dsimp only at hF
    refine L_X8_walkFrom_2_ok d _ v7 v8 x6 _ _ _ _ g9 ?_
    refine am_Rr.go 2 (σ' := (42, [some (.ref 27), some (.int v7), some (.int 1), none, none, none], [], x6)) rfl ?_
    refine am_Rr.weak (ls0 := [some (.ref 27), none, some (.int 1), none, none, none]) (by simp [am_le]) ?_
    cases g46 : L_X8_walkFrom_42 3600003 (1 : Int32) x6 with
    | none => rw [g46] at hF; cases hF
    | some q_ =>
      obtain ⟨v45, x44⟩ := q_
      rw [g46] at hF
      dsimp only at hF
      refine L_X8_walkFrom_42_ok d _ v45 x44 _ _ _ g46 ?_
      obtain rfl := Option.some.inj hF
      exact am_Rr.ret (v := none) (x := x44) rfl (by trivial) ⟨rfl, rfl⟩
