noncomputable def G_X8_row (a : Int32) (x : am_X) : Option (Int32 × am_X) := (if (0 : Int32) ≤ a then (if (99 : Int32) < a then (match G_X8_no (-6 : Int32) x with | none => none | some (r3, x4) => some (r3, x4)) else (if (x.1 885) = 12 then (match G_X8_no (-6 : Int32) x with | none => none | some (r7, x8) => some (r7, x8)) else (if 0 ≤ (x.1 885).toInt ∧ (x.1 885).toInt < 12 then some (((x.1 885) + 1), (am_uI (am_sA x 42 (upd (x.2.2.1 42) ((x.1 885).toNatClampNeg) a)) 885 ((x.1 885) + 1))) else none))) else (match G_X8_no (-4 : Int32) x with | none => none | some (r11, x12) => some (r11, x12)))
theorem A_X8_row (d : Nat) {a : Int32} {x : am_X} {res : Int32 × am_X} (hF : G_X8_row a x = some res) : am_T (d + 3) mX8_row [.ref 27, .int a] x (fun ro y => ro = some (.int res.1) ∧ res.2 = y) := by
  refine am_T.of rfl ?_
  show am_Rr (d + 2) kX8_row (0, [some (.ref 27), some (.int a)], [], x) _
  unfold G_X8_row at hF
  refine am_Rr.go 2 (σ' := (if (0 : Int32) ≤ a then 11 else 4, [some (.ref 27), some (.int a)], [], x)) rfl ?_
  refine am_Rr.ite (fun h1 => ?_) (fun h1 => ?_)
  · rw [if_pos h1] at hF
    refine am_Rr.go 3 (σ' := (if (99 : Int32) < a then 26 else 17, [some (.ref 27), some (.int a)], [], x)) rfl ?_
    refine am_Rr.ite (fun h2 => ?_) (fun h2 => ?_)
    · rw [if_pos h2] at hF
      refine am_Rr.go 2 (σ' := (29, [some (.ref 27), some (.int a)], [.int (-6), .ref 27], x)) rfl ?_
      cases g5 : G_X8_no (-6 : Int32) x with
      | none => rw [g5] at hF; cases hF
      | some q_ =>
        obtain ⟨r3, x4⟩ := q_
        rw [g5] at hF
        dsimp only at hF
        refine am_Rr.call (pc := 32) (ls := [some (.ref 27), some (.int a)]) (st := []) rfl (A_X8_no d g5) ?_
        rintro _ _ ⟨rfl, rfl⟩
        show am_Rr _ _ (32, [some (.ref 27), some (.int a)], [.int r3], x4) _
        obtain rfl := Option.some.inj hF
        exact am_Rr.ret (v := some (.int r3)) (x := x4) rfl (by trivial) ⟨rfl, rfl⟩
    · rw [if_neg h2] at hF
      refine am_Rr.go 4 (σ' := (if (x.1 885) = 12 then 26 else 33, [some (.ref 27), some (.int a)], [], x)) rfl ?_
      refine am_Rr.ite (fun h6 => ?_) (fun h6 => ?_)
      · rw [if_pos h6] at hF
        refine am_Rr.go 2 (σ' := (29, [some (.ref 27), some (.int a)], [.int (-6), .ref 27], x)) rfl ?_
        cases g9 : G_X8_no (-6 : Int32) x with
        | none => rw [g9] at hF; cases hF
        | some q_ =>
          obtain ⟨r7, x8⟩ := q_
          rw [g9] at hF
          dsimp only at hF
          refine am_Rr.call (pc := 32) (ls := [some (.ref 27), some (.int a)]) (st := []) rfl (A_X8_no d g9) ?_
          rintro _ _ ⟨rfl, rfl⟩
          show am_Rr _ _ (32, [some (.ref 27), some (.int a)], [.int r7], x8) _
          obtain rfl := Option.some.inj hF
          exact am_Rr.ret (v := some (.int r7)) (x := x8) rfl (by trivial) ⟨rfl, rfl⟩
      · rw [if_neg h6] at hF
        refine am_Rr.go 5 (σ' := (42, [some (.ref 27), some (.int a)], [.int a, .int (x.1 885), .ref 42], x)) rfl ?_
        by_cases c10 : 0 ≤ (x.1 885).toInt ∧ (x.1 885).toInt < 12
        · rw [if_pos c10] at hF
          refine am_Rr.chk (σ' := (43, [some (.ref 27), some (.int a)], [], (am_sA x 42 (upd (x.2.2.1 42) ((x.1 885).toNatClampNeg) a)))) rfl (by exact vp_in_iff.mpr c10) ?_
          refine am_Rr.go 8 (σ' := (57, [some (.ref 27), some (.int a)], [.int ((x.1 885) + 1)], (am_uI (am_sA x 42 (upd (x.2.2.1 42) ((x.1 885).toNatClampNeg) a)) 885 ((x.1 885) + 1)))) rfl ?_
          obtain rfl := Option.some.inj hF
          exact am_Rr.ret (v := some (.int ((x.1 885) + 1))) (x := (am_uI (am_sA x 42 (upd (x.2.2.1 42) ((x.1 885).toNatClampNeg) a)) 885 ((x.1 885) + 1))) rfl (by trivial) ⟨rfl, rfl⟩
        · rw [if_neg c10] at hF
          cases hF
  · rw [if_neg h1] at hF
    refine am_Rr.go 2 (σ' := (7, [some (.ref 27), some (.int a)], [.int (-4), .ref 27], x)) rfl ?_
    cases g13 : G_X8_no (-4 : Int32) x with
    | none => rw [g13] at hF; cases hF
    | some q_ =>
      obtain ⟨r11, x12⟩ := q_
      rw [g13] at hF
      dsimp only at hF
      refine am_Rr.call (pc := 10) (ls := [some (.ref 27), some (.int a)]) (st := []) rfl (A_X8_no d g13) ?_
      rintro _ _ ⟨rfl, rfl⟩
      show am_Rr _ _ (10, [some (.ref 27), some (.int a)], [.int r11], x12) _
      obtain rfl := Option.some.inj hF
      exact am_Rr.ret (v := some (.int r11)) (x := x12) rfl (by trivial) ⟨rfl, rfl⟩
noncomputable def L_X8_count_52 : Nat → Int32 → Int32 → Int32 → am_X → Option (Int32 × Int32 × Int32 × am_X)
  | 0, _, _, _, _ => none
  | n + 1, v2, v3, v4, x => (if (36 : Int32) ≤ v4 then some (v2, v3, v4, x) else (match G_X8_kindOf v4 x with | none => none | some (r20, x21) => (if r20 = v2 then L_X8_count_52 n v2 (v3 + 1) (v4 + 1) x21 else L_X8_count_52 n v2 (v3 + 0) (v4 + 1) x21)))
theorem L_X8_count_52_ok (d : Nat) (post : Option Value → am_X → Prop) (w2 : Int32) (w3 : Int32) (w4 : Int32) (y : am_X) : ∀ (n : Nat) (v2 : Int32) (v3 : Int32) (v4 : Int32) (x : am_X), L_X8_count_52 n v2 v3 v4 x = some (w2, w3, w4, y) → am_Rr (d + 2) kX8_count (83, [some (.ref 27), none, some (.int w2), some (.int w3), some (.int w4)], [], y) post → am_Rr (d + 2) kX8_count (52, [some (.ref 27), none, some (.int v2), some (.int v3), some (.int v4)], [], x) post := by
  intro n
  induction n with
  | zero =>
    intro v2 v3 v4 x hF
    cases hF
  | succ n ih =>
    intro v2 v3 v4 x hF hk
    rw [L_X8_count_52] at hF
    refine am_Rr.go 3 (σ' := (if (36 : Int32) ≤ v4 then 83 else 59, [some (.ref 27), none, some (.int v2), some (.int v3), some (.int v4)], [], x)) rfl ?_
    refine am_Rr.ite (fun h19 => ?_) (fun h19 => ?_)
    · rw [if_pos h19] at hF
      cases hF
      exact hk
    · rw [if_neg h19] at hF
      refine am_Rr.go 3 (σ' := (63, [some (.ref 27), none, some (.int v2), some (.int v3), some (.int v4)], [.int v4, .ref 27, .int v3], x)) rfl ?_
      cases g22 : G_X8_kindOf v4 x with
      | none => rw [g22] at hF; cases hF
      | some q_ =>
        obtain ⟨r20, x21⟩ := q_
        rw [g22] at hF
        dsimp only at hF
        refine am_Rr.call (pc := 66) (ls := [some (.ref 27), none, some (.int v2), some (.int v3), some (.int v4)]) (st := [.int v3]) rfl (A_X8_kindOf d g22) ?_
        rintro _ _ ⟨rfl, rfl⟩
        show am_Rr _ _ (66, [some (.ref 27), none, some (.int v2), some (.int v3), some (.int v4)], [.int r20, .int v3], x21) _
        refine am_Rr.go 2 (σ' := (if r20 = v2 then 70 else 74, [some (.ref 27), none, some (.int v2), some (.int v3), some (.int v4)], [.int v3], x21)) rfl ?_
        refine am_Rr.ite (fun h23 => ?_) (fun h23 => ?_)
        · rw [if_pos h23] at hF
          refine am_Rr.go 6 (σ' := (52, [some (.ref 27), none, some (.int v2), some (.int (v3 + 1)), some (.int (v4 + 1))], [], x21)) rfl ?_
          exact ih _ _ _ _ hF hk
        · rw [if_neg h23] at hF
          refine am_Rr.go 5 (σ' := (52, [some (.ref 27), none, some (.int v2), some (.int (v3 + 0)), some (.int (v4 + 1))], [], x21)) rfl ?_
          exact ih _ _ _ _ hF hk
noncomputable def G_X8_count (a : Int32) (x : am_X) : Option (Int32 × am_X) := (if a < 0 then (if a < 4 then (if a = 7 then (if a = 7 then some ((x.1 885), x) else some ((x.1 869), x)) else (if a = 8 then (if a = 7 then some ((x.1 885), x) else some ((x.1 869), x)) else (if a < 11 then some ((-9 : Int32), x) else (if (16 : Int32) < a then some ((-9 : Int32), x) else (if 0 ≤ (a - 10).toInt ∧ (a - 10).toInt < 7 then some (((x.2.2.1 28) (a - 10).toNatClampNeg), x) else none))))) else (if (6 : Int32) < a then (if a = 7 then (if a = 7 then some ((x.1 885), x) else some ((x.1 869), x)) else (if a = 8 then (if a = 7 then some ((x.1 885), x) else some ((x.1 869), x)) else (if a < 11 then some ((-9 : Int32), x) else (if (16 : Int32) < a then some ((-9 : Int32), x) else (if 0 ≤ (a - 10).toInt ∧ (a - 10).toInt < 7 then some (((x.2.2.1 28) (a - 10).toNatClampNeg), x) else none))))) else (if a = 4 then (match L_X8_count_52 1000 (1 : Int32) (0 : Int32) (0 : Int32) x with | none => none | some (v25, v26, v27, x24) => some (v26, x24)) else (if a = 5 then (match L_X8_count_52 1000 (2 : Int32) (0 : Int32) (0 : Int32) x with | none => none | some (v31, v32, v33, x30) => some (v32, x30)) else (match L_X8_count_52 1000 (5 : Int32) (0 : Int32) (0 : Int32) x with | none => none | some (v36, v37, v38, x35) => some (v37, x35)))))) else (if (3 : Int32) < a then (if a < 4 then (if a = 7 then (if a = 7 then some ((x.1 885), x) else some ((x.1 869), x)) else (if a = 8 then (if a = 7 then some ((x.1 885), x) else some ((x.1 869), x)) else (if a < 11 then some ((-9 : Int32), x) else (if (16 : Int32) < a then some ((-9 : Int32), x) else (if 0 ≤ (a - 10).toInt ∧ (a - 10).toInt < 7 then some (((x.2.2.1 28) (a - 10).toNatClampNeg), x) else none))))) else (if (6 : Int32) < a then (if a = 7 then (if a = 7 then some ((x.1 885), x) else some ((x.1 869), x)) else (if a = 8 then (if a = 7 then some ((x.1 885), x) else some ((x.1 869), x)) else (if a < 11 then some ((-9 : Int32), x) else (if (16 : Int32) < a then some ((-9 : Int32), x) else (if 0 ≤ (a - 10).toInt ∧ (a - 10).toInt < 7 then some (((x.2.2.1 28) (a - 10).toNatClampNeg), x) else none))))) else (if a = 4 then (match L_X8_count_52 1000 (1 : Int32) (0 : Int32) (0 : Int32) x with | none => none | some (v59, v60, v61, x58) => some (v60, x58)) else (if a = 5 then (match L_X8_count_52 1000 (2 : Int32) (0 : Int32) (0 : Int32) x with | none => none | some (v65, v66, v67, x64) => some (v66, x64)) else (match L_X8_count_52 1000 (5 : Int32) (0 : Int32) (0 : Int32) x with | none => none | some (v70, v71, v72, x69) => some (v71, x69)))))) else (if 0 ≤ a.toInt ∧ a.toInt < 56 then some (((x.2.2.1 29) a.toNatClampNeg), x) else none)))
theorem A_X8_count (d : Nat) {a : Int32} {x : am_X} {res : Int32 × am_X} (hF : G_X8_count a x = some res) : am_T (d + 3) mX8_count [.ref 27, .int a] x (fun ro y => ro = some (.int res.1) ∧ res.2 = y) := by
  refine am_T.of rfl ?_
  show am_Rr (d + 2) kX8_count (0, [some (.ref 27), some (.int a), none, none, none], [], x) _
  unfold G_X8_count at hF
  refine am_Rr.go 2 (σ' := (if a < 0 then 16 else 4, [some (.ref 27), some (.int a), none, none, none], [], x)) rfl ?_
  refine am_Rr.ite (fun h1 => ?_) (fun h1 => ?_)
  · rw [if_pos h1] at hF
    refine am_Rr.go 3 (σ' := (if a < 4 then 85 else 21, [some (.ref 27), some (.int a), none, none, none], [], x)) rfl ?_
    refine am_Rr.ite (fun h2 => ?_) (fun h2 => ?_)
    · rw [if_pos h2] at hF
      refine am_Rr.go 3 (σ' := (if a = 7 then 97 else 91, [some (.ref 27), some (.int a), none, none, none], [], x)) rfl ?_
      refine am_Rr.ite (fun h3 => ?_) (fun h3 => ?_)
      · rw [if_pos h3] at hF
        refine am_Rr.go 3 (σ' := (if a = 7 then 103 else 110, [some (.ref 27), some (.int a), none, none, none], [], x)) rfl ?_
        refine am_Rr.ite (fun h4 => ?_) (fun h4 => ?_)
        · rw [if_pos h4] at hF
          refine am_Rr.go 3 (σ' := (114, [some (.ref 27), some (.int a), none, none, none], [.int (x.1 885)], x)) rfl ?_
          obtain rfl := Option.some.inj hF
          exact am_Rr.ret (v := some (.int (x.1 885))) (x := x) rfl (by trivial) ⟨rfl, rfl⟩
        · rw [if_neg h4] at hF
          refine am_Rr.go 2 (σ' := (114, [some (.ref 27), some (.int a), none, none, none], [.int (x.1 869)], x)) rfl ?_
          obtain rfl := Option.some.inj hF
          exact am_Rr.ret (v := some (.int (x.1 869))) (x := x) rfl (by trivial) ⟨rfl, rfl⟩
      · rw [if_neg h3] at hF
        refine am_Rr.go 3 (σ' := (if a = 8 then 97 else 115, [some (.ref 27), some (.int a), none, none, none], [], x)) rfl ?_
        refine am_Rr.ite (fun h5 => ?_) (fun h5 => ?_)
        · rw [if_pos h5] at hF
          refine am_Rr.go 3 (σ' := (if a = 7 then 103 else 110, [some (.ref 27), some (.int a), none, none, none], [], x)) rfl ?_
          refine am_Rr.ite (fun h6 => ?_) (fun h6 => ?_)
          · rw [if_pos h6] at hF
            refine am_Rr.go 3 (σ' := (114, [some (.ref 27), some (.int a), none, none, none], [.int (x.1 885)], x)) rfl ?_
            obtain rfl := Option.some.inj hF
            exact am_Rr.ret (v := some (.int (x.1 885))) (x := x) rfl (by trivial) ⟨rfl, rfl⟩
          · rw [if_neg h6] at hF
            refine am_Rr.go 2 (σ' := (114, [some (.ref 27), some (.int a), none, none, none], [.int (x.1 869)], x)) rfl ?_
            obtain rfl := Option.some.inj hF
            exact am_Rr.ret (v := some (.int (x.1 869))) (x := x) rfl (by trivial) ⟨rfl, rfl⟩
        · rw [if_neg h5] at hF
          refine am_Rr.go 3 (σ' := (if a < 11 then 139 else 121, [some (.ref 27), some (.int a), none, none, none], [], x)) rfl ?_
          refine am_Rr.ite (fun h7 => ?_) (fun h7 => ?_)
          · rw [if_pos h7] at hF
            refine am_Rr.go 1 (σ' := (141, [some (.ref 27), some (.int a), none, none, none], [.int (-9)], x)) rfl ?_
            obtain rfl := Option.some.inj hF
            exact am_Rr.ret (v := some (.int (-9))) (x := x) rfl (by trivial) ⟨rfl, rfl⟩
          · rw [if_neg h7] at hF
            refine am_Rr.go 3 (σ' := (if (16 : Int32) < a then 139 else 127, [some (.ref 27), some (.int a), none, none, none], [], x)) rfl ?_
            refine am_Rr.ite (fun h8 => ?_) (fun h8 => ?_)
            · rw [if_pos h8] at hF
              refine am_Rr.go 1 (σ' := (141, [some (.ref 27), some (.int a), none, none, none], [.int (-9)], x)) rfl ?_
              obtain rfl := Option.some.inj hF
              exact am_Rr.ret (v := some (.int (-9))) (x := x) rfl (by trivial) ⟨rfl, rfl⟩
            · rw [if_neg h8] at hF
              refine am_Rr.go 5 (σ' := (135, [some (.ref 27), some (.int a), none, none, none], [.int (a - 10), .ref 28], x)) rfl ?_
              by_cases c9 : 0 ≤ (a - 10).toInt ∧ (a - 10).toInt < 7
              · rw [if_pos c9] at hF
                refine am_Rr.chk (σ' := (136, [some (.ref 27), some (.int a), none, none, none], [.int ((x.2.2.1 28) (a - 10).toNatClampNeg)], x)) rfl (by exact vp_in_iff.mpr c9) ?_
                refine am_Rr.go 1 (σ' := (141, [some (.ref 27), some (.int a), none, none, none], [.int ((x.2.2.1 28) (a - 10).toNatClampNeg)], x)) rfl ?_
                obtain rfl := Option.some.inj hF
                exact am_Rr.ret (v := some (.int ((x.2.2.1 28) (a - 10).toNatClampNeg))) (x := x) rfl (by trivial) ⟨rfl, rfl⟩
              · rw [if_neg c9] at hF
                cases hF
    · rw [if_neg h2] at hF
      refine am_Rr.go 3 (σ' := (if (6 : Int32) < a then 85 else 27, [some (.ref 27), some (.int a), none, none, none], [], x)) rfl ?_
      refine am_Rr.ite (fun h10 => ?_) (fun h10 => ?_)
      · rw [if_pos h10] at hF
        refine am_Rr.go 3 (σ' := (if a = 7 then 97 else 91, [some (.ref 27), some (.int a), none, none, none], [], x)) rfl ?_
        refine am_Rr.ite (fun h11 => ?_) (fun h11 => ?_)
        · rw [if_pos h11] at hF
          refine am_Rr.go 3 (σ' := (if a = 7 then 103 else 110, [some (.ref 27), some (.int a), none, none, none], [], x)) rfl ?_
          refine am_Rr.ite (fun h12 => ?_) (fun h12 => ?_)
          · rw [if_pos h12] at hF
            refine am_Rr.go 3 (σ' := (114, [some (.ref 27), some (.int a), none, none, none], [.int (x.1 885)], x)) rfl ?_
            obtain rfl := Option.some.inj hF
            exact am_Rr.ret (v := some (.int (x.1 885))) (x := x) rfl (by trivial) ⟨rfl, rfl⟩
          · rw [if_neg h12] at hF
            refine am_Rr.go 2 (σ' := (114, [some (.ref 27), some (.int a), none, none, none], [.int (x.1 869)], x)) rfl ?_
            obtain rfl := Option.some.inj hF
            exact am_Rr.ret (v := some (.int (x.1 869))) (x := x) rfl (by trivial) ⟨rfl, rfl⟩
        · rw [if_neg h11] at hF
          refine am_Rr.go 3 (σ' := (if a = 8 then 97 else 115, [some (.ref 27), some (.int a), none, none, none], [], x)) rfl ?_
          refine am_Rr.ite (fun h13 => ?_) (fun h13 => ?_)
          · rw [if_pos h13] at hF
            refine am_Rr.go 3 (σ' := (if a = 7 then 103 else 110, [some (.ref 27), some (.int a), none, none, none], [], x)) rfl ?_
            refine am_Rr.ite (fun h14 => ?_) (fun h14 => ?_)
            · rw [if_pos h14] at hF
              refine am_Rr.go 3 (σ' := (114, [some (.ref 27), some (.int a), none, none, none], [.int (x.1 885)], x)) rfl ?_
              obtain rfl := Option.some.inj hF
              exact am_Rr.ret (v := some (.int (x.1 885))) (x := x) rfl (by trivial) ⟨rfl, rfl⟩
            · rw [if_neg h14] at hF
              refine am_Rr.go 2 (σ' := (114, [some (.ref 27), some (.int a), none, none, none], [.int (x.1 869)], x)) rfl ?_
              obtain rfl := Option.some.inj hF
              exact am_Rr.ret (v := some (.int (x.1 869))) (x := x) rfl (by trivial) ⟨rfl, rfl⟩
          · rw [if_neg h13] at hF
            refine am_Rr.go 3 (σ' := (if a < 11 then 139 else 121, [some (.ref 27), some (.int a), none, none, none], [], x)) rfl ?_
            refine am_Rr.ite (fun h15 => ?_) (fun h15 => ?_)
            · rw [if_pos h15] at hF
              refine am_Rr.go 1 (σ' := (141, [some (.ref 27), some (.int a), none, none, none], [.int (-9)], x)) rfl ?_
              obtain rfl := Option.some.inj hF
              exact am_Rr.ret (v := some (.int (-9))) (x := x) rfl (by trivial) ⟨rfl, rfl⟩
            · rw [if_neg h15] at hF
              refine am_Rr.go 3 (σ' := (if (16 : Int32) < a then 139 else 127, [some (.ref 27), some (.int a), none, none, none], [], x)) rfl ?_
              refine am_Rr.ite (fun h16 => ?_) (fun h16 => ?_)
              · rw [if_pos h16] at hF
                refine am_Rr.go 1 (σ' := (141, [some (.ref 27), some (.int a), none, none, none], [.int (-9)], x)) rfl ?_
                obtain rfl := Option.some.inj hF
                exact am_Rr.ret (v := some (.int (-9))) (x := x) rfl (by trivial) ⟨rfl, rfl⟩
              · rw [if_neg h16] at hF
                refine am_Rr.go 5 (σ' := (135, [some (.ref 27), some (.int a), none, none, none], [.int (a - 10), .ref 28], x)) rfl ?_
                by_cases c17 : 0 ≤ (a - 10).toInt ∧ (a - 10).toInt < 7
                · rw [if_pos c17] at hF
                  refine am_Rr.chk (σ' := (136, [some (.ref 27), some (.int a), none, none, none], [.int ((x.2.2.1 28) (a - 10).toNatClampNeg)], x)) rfl (by exact vp_in_iff.mpr c17) ?_
                  refine am_Rr.go 1 (σ' := (141, [some (.ref 27), some (.int a), none, none, none], [.int ((x.2.2.1 28) (a - 10).toNatClampNeg)], x)) rfl ?_
                  obtain rfl := Option.some.inj hF
                  exact am_Rr.ret (v := some (.int ((x.2.2.1 28) (a - 10).toNatClampNeg))) (x := x) rfl (by trivial) ⟨rfl, rfl⟩
                · rw [if_neg c17] at hF
                  cases hF
      · rw [if_neg h10] at hF
        refine am_Rr.go 3 (σ' := (if a = 4 then 32 else 36, [some (.ref 27), some (.int a), none, none, none], [], x)) rfl ?_
        refine am_Rr.ite (fun h18 => ?_) (fun h18 => ?_)
        · rw [if_pos h18] at hF
          refine am_Rr.go 7 (σ' := (52, [some (.ref 27), some (.int a), some (.int 1), some (.int 0), some (.int 0)], [], x)) rfl ?_
          refine am_Rr.weak (ls0 := [some (.ref 27), none, some (.int 1), some (.int 0), some (.int 0)]) (by simp [am_le]) ?_
          cases g28 : L_X8_count_52 1000 (1 : Int32) (0 : Int32) (0 : Int32) x with
          | none => rw [g28] at hF; cases hF
          | some q_ =>
            obtain ⟨v25, v26, v27, x24⟩ := q_
            rw [g28] at hF
            dsimp only at hF
            refine L_X8_count_52_ok d _ v25 v26 v27 x24 _ _ _ _ _ g28 ?_
            refine am_Rr.go 1 (σ' := (84, [some (.ref 27), none, some (.int v25), some (.int v26), some (.int v27)], [.int v26], x24)) rfl ?_
            obtain rfl := Option.some.inj hF
            exact am_Rr.ret (v := some (.int v26)) (x := x24) rfl (by trivial) ⟨rfl, rfl⟩
        · rw [if_neg h18] at hF
          refine am_Rr.go 3 (σ' := (if a = 5 then 41 else 45, [some (.ref 27), some (.int a), none, none, none], [], x)) rfl ?_
          refine am_Rr.ite (fun h29 => ?_) (fun h29 => ?_)
          · rw [if_pos h29] at hF
            refine am_Rr.go 7 (σ' := (52, [some (.ref 27), some (.int a), some (.int 2), some (.int 0), some (.int 0)], [], x)) rfl ?_
            refine am_Rr.weak (ls0 := [some (.ref 27), none, some (.int 2), some (.int 0), some (.int 0)]) (by simp [am_le]) ?_
            cases g34 : L_X8_count_52 1000 (2 : Int32) (0 : Int32) (0 : Int32) x with
            | none => rw [g34] at hF; cases hF
            | some q_ =>
              obtain ⟨v31, v32, v33, x30⟩ := q_
              rw [g34] at hF
              dsimp only at hF
              refine L_X8_count_52_ok d _ v31 v32 v33 x30 _ _ _ _ _ g34 ?_
              refine am_Rr.go 1 (σ' := (84, [some (.ref 27), none, some (.int v31), some (.int v32), some (.int v33)], [.int v32], x30)) rfl ?_
              obtain rfl := Option.some.inj hF
              exact am_Rr.ret (v := some (.int v32)) (x := x30) rfl (by trivial) ⟨rfl, rfl⟩
          · rw [if_neg h29] at hF
            refine am_Rr.go 6 (σ' := (52, [some (.ref 27), some (.int a), some (.int 5), some (.int 0), some (.int 0)], [], x)) rfl ?_
            refine am_Rr.weak (ls0 := [some (.ref 27), none, some (.int 5), some (.int 0), some (.int 0)]) (by simp [am_le]) ?_
            cases g39 : L_X8_count_52 1000 (5 : Int32) (0 : Int32) (0 : Int32) x with
            | none => rw [g39] at hF; cases hF
            | some q_ =>
              obtain ⟨v36, v37, v38, x35⟩ := q_
              rw [g39] at hF
              dsimp only at hF
              refine L_X8_count_52_ok d _ v36 v37 v38 x35 _ _ _ _ _ g39 ?_
              refine am_Rr.go 1 (σ' := (84, [some (.ref 27), none, some (.int v36), some (.int v37), some (.int v38)], [.int v37], x35)) rfl ?_
              obtain rfl := Option.some.inj hF
              exact am_Rr.ret (v := some (.int v37)) (x := x35) rfl (by trivial) ⟨rfl, rfl⟩
  · rw [if_neg h1] at hF
    refine am_Rr.go 3 (σ' := (if (3 : Int32) < a then 16 else 9, [some (.ref 27), some (.int a), none, none, none], [], x)) rfl ?_
    refine am_Rr.ite (fun h40 => ?_) (fun h40 => ?_)
    · rw [if_pos h40] at hF
      refine am_Rr.go 3 (σ' := (if a < 4 then 85 else 21, [some (.ref 27), some (.int a), none, none, none], [], x)) rfl ?_
      refine am_Rr.ite (fun h41 => ?_) (fun h41 => ?_)
      · rw [if_pos h41] at hF
        refine am_Rr.go 3 (σ' := (if a = 7 then 97 else 91, [some (.ref 27), some (.int a), none, none, none], [], x)) rfl ?_
        refine am_Rr.ite (fun h42 => ?_) (fun h42 => ?_)
        · rw [if_pos h42] at hF
          refine am_Rr.go 3 (σ' := (if a = 7 then 103 else 110, [some (.ref 27), some (.int a), none, none, none], [], x)) rfl ?_
          refine am_Rr.ite (fun h43 => ?_) (fun h43 => ?_)
          · rw [if_pos h43] at hF
            refine am_Rr.go 3 (σ' := (114, [some (.ref 27), some (.int a), none, none, none], [.int (x.1 885)], x)) rfl ?_
            obtain rfl := Option.some.inj hF
            exact am_Rr.ret (v := some (.int (x.1 885))) (x := x) rfl (by trivial) ⟨rfl, rfl⟩
          · rw [if_neg h43] at hF
            refine am_Rr.go 2 (σ' := (114, [some (.ref 27), some (.int a), none, none, none], [.int (x.1 869)], x)) rfl ?_
            obtain rfl := Option.some.inj hF
            exact am_Rr.ret (v := some (.int (x.1 869))) (x := x) rfl (by trivial) ⟨rfl, rfl⟩
        · rw [if_neg h42] at hF
          refine am_Rr.go 3 (σ' := (if a = 8 then 97 else 115, [some (.ref 27), some (.int a), none, none, none], [], x)) rfl ?_
          refine am_Rr.ite (fun h44 => ?_) (fun h44 => ?_)
          · rw [if_pos h44] at hF
            refine am_Rr.go 3 (σ' := (if a = 7 then 103 else 110, [some (.ref 27), some (.int a), none, none, none], [], x)) rfl ?_
            refine am_Rr.ite (fun h45 => ?_) (fun h45 => ?_)
            · rw [if_pos h45] at hF
              refine am_Rr.go 3 (σ' := (114, [some (.ref 27), some (.int a), none, none, none], [.int (x.1 885)], x)) rfl ?_
              obtain rfl := Option.some.inj hF
              exact am_Rr.ret (v := some (.int (x.1 885))) (x := x) rfl (by trivial) ⟨rfl, rfl⟩
            · rw [if_neg h45] at hF
              refine am_Rr.go 2 (σ' := (114, [some (.ref 27), some (.int a), none, none, none], [.int (x.1 869)], x)) rfl ?_
              obtain rfl := Option.some.inj hF
              exact am_Rr.ret (v := some (.int (x.1 869))) (x := x) rfl (by trivial) ⟨rfl, rfl⟩
          · rw [if_neg h44] at hF
            refine am_Rr.go 3 (σ' := (if a < 11 then 139 else 121, [some (.ref 27), some (.int a), none, none, none], [], x)) rfl ?_
            refine am_Rr.ite (fun h46 => ?_) (fun h46 => ?_)
            · rw [if_pos h46] at hF
              refine am_Rr.go 1 (σ' := (141, [some (.ref 27), some (.int a), none, none, none], [.int (-9)], x)) rfl ?_
              obtain rfl := Option.some.inj hF
              exact am_Rr.ret (v := some (.int (-9))) (x := x) rfl (by trivial) ⟨rfl, rfl⟩
            · rw [if_neg h46] at hF
              refine am_Rr.go 3 (σ' := (if (16 : Int32) < a then 139 else 127, [some (.ref 27), some (.int a), none, none, none], [], x)) rfl ?_
              refine am_Rr.ite (fun h47 => ?_) (fun h47 => ?_)
              · rw [if_pos h47] at hF
                refine am_Rr.go 1 (σ' := (141, [some (.ref 27), some (.int a), none, none, none], [.int (-9)], x)) rfl ?_
                obtain rfl := Option.some.inj hF
                exact am_Rr.ret (v := some (.int (-9))) (x := x) rfl (by trivial) ⟨rfl, rfl⟩
              · rw [if_neg h47] at hF
                refine am_Rr.go 5 (σ' := (135, [some (.ref 27), some (.int a), none, none, none], [.int (a - 10), .ref 28], x)) rfl ?_
                by_cases c48 : 0 ≤ (a - 10).toInt ∧ (a - 10).toInt < 7
                · rw [if_pos c48] at hF
                  refine am_Rr.chk (σ' := (136, [some (.ref 27), some (.int a), none, none, none], [.int ((x.2.2.1 28) (a - 10).toNatClampNeg)], x)) rfl (by exact vp_in_iff.mpr c48) ?_
                  refine am_Rr.go 1 (σ' := (141, [some (.ref 27), some (.int a), none, none, none], [.int ((x.2.2.1 28) (a - 10).toNatClampNeg)], x)) rfl ?_
                  obtain rfl := Option.some.inj hF
                  exact am_Rr.ret (v := some (.int ((x.2.2.1 28) (a - 10).toNatClampNeg))) (x := x) rfl (by trivial) ⟨rfl, rfl⟩
                · rw [if_neg c48] at hF
                  cases hF
      · rw [if_neg h41] at hF
        refine am_Rr.go 3 (σ' := (if (6 : Int32) < a then 85 else 27, [some (.ref 27), some (.int a), none, none, none], [], x)) rfl ?_
        refine am_Rr.ite (fun h49 => ?_) (fun h49 => ?_)
        · rw [if_pos h49] at hF
          refine am_Rr.go 3 (σ' := (if a = 7 then 97 else 91, [some (.ref 27), some (.int a), none, none, none], [], x)) rfl ?_
          refine am_Rr.ite (fun h50 => ?_) (fun h50 => ?_)
          · rw [if_pos h50] at hF
            refine am_Rr.go 3 (σ' := (if a = 7 then 103 else 110, [some (.ref 27), some (.int a), none, none, none], [], x)) rfl ?_
            refine am_Rr.ite (fun h51 => ?_) (fun h51 => ?_)
            · rw [if_pos h51] at hF
              refine am_Rr.go 3 (σ' := (114, [some (.ref 27), some (.int a), none, none, none], [.int (x.1 885)], x)) rfl ?_
              obtain rfl := Option.some.inj hF
              exact am_Rr.ret (v := some (.int (x.1 885))) (x := x) rfl (by trivial) ⟨rfl, rfl⟩
            · rw [if_neg h51] at hF
              refine am_Rr.go 2 (σ' := (114, [some (.ref 27), some (.int a), none, none, none], [.int (x.1 869)], x)) rfl ?_
              obtain rfl := Option.some.inj hF
              exact am_Rr.ret (v := some (.int (x.1 869))) (x := x) rfl (by trivial) ⟨rfl, rfl⟩
          · rw [if_neg h50] at hF
            refine am_Rr.go 3 (σ' := (if a = 8 then 97 else 115, [some (.ref 27), some (.int a), none, none, none], [], x)) rfl ?_
            refine am_Rr.ite (fun h52 => ?_) (fun h52 => ?_)
            · rw [if_pos h52] at hF
              refine am_Rr.go 3 (σ' := (if a = 7 then 103 else 110, [some (.ref 27), some (.int a), none, none, none], [], x)) rfl ?_
              refine am_Rr.ite (fun h53 => ?_) (fun h53 => ?_)
              · rw [if_pos h53] at hF
                refine am_Rr.go 3 (σ' := (114, [some (.ref 27), some (.int a), none, none, none], [.int (x.1 885)], x)) rfl ?_
                obtain rfl := Option.some.inj hF
                exact am_Rr.ret (v := some (.int (x.1 885))) (x := x) rfl (by trivial) ⟨rfl, rfl⟩
              · rw [if_neg h53] at hF
                refine am_Rr.go 2 (σ' := (114, [some (.ref 27), some (.int a), none, none, none], [.int (x.1 869)], x)) rfl ?_
                obtain rfl := Option.some.inj hF
                exact am_Rr.ret (v := some (.int (x.1 869))) (x := x) rfl (by trivial) ⟨rfl, rfl⟩
            · rw [if_neg h52] at hF
              refine am_Rr.go 3 (σ' := (if a < 11 then 139 else 121, [some (.ref 27), some (.int a), none, none, none], [], x)) rfl ?_
              refine am_Rr.ite (fun h54 => ?_) (fun h54 => ?_)
              · rw [if_pos h54] at hF
                refine am_Rr.go 1 (σ' := (141, [some (.ref 27), some (.int a), none, none, none], [.int (-9)], x)) rfl ?_
                obtain rfl := Option.some.inj hF
                exact am_Rr.ret (v := some (.int (-9))) (x := x) rfl (by trivial) ⟨rfl, rfl⟩
              · rw [if_neg h54] at hF
                refine am_Rr.go 3 (σ' := (if (16 : Int32) < a then 139 else 127, [some (.ref 27), some (.int a), none, none, none], [], x)) rfl ?_
                refine am_Rr.ite (fun h55 => ?_) (fun h55 => ?_)
                · rw [if_pos h55] at hF
                  refine am_Rr.go 1 (σ' := (141, [some (.ref 27), some (.int a), none, none, none], [.int (-9)], x)) rfl ?_
                  obtain rfl := Option.some.inj hF
                  exact am_Rr.ret (v := some (.int (-9))) (x := x) rfl (by trivial) ⟨rfl, rfl⟩
                · rw [if_neg h55] at hF
                  refine am_Rr.go 5 (σ' := (135, [some (.ref 27), some (.int a), none, none, none], [.int (a - 10), .ref 28], x)) rfl ?_
                  by_cases c56 : 0 ≤ (a - 10).toInt ∧ (a - 10).toInt < 7
                  · rw [if_pos c56] at hF
                    refine am_Rr.chk (σ' := (136, [some (.ref 27), some (.int a), none, none, none], [.int ((x.2.2.1 28) (a - 10).toNatClampNeg)], x)) rfl (by exact vp_in_iff.mpr c56) ?_
                    refine am_Rr.go 1 (σ' := (141, [some (.ref 27), some (.int a), none, none, none], [.int ((x.2.2.1 28) (a - 10).toNatClampNeg)], x)) rfl ?_
                    obtain rfl := Option.some.inj hF
                    exact am_Rr.ret (v := some (.int ((x.2.2.1 28) (a - 10).toNatClampNeg))) (x := x) rfl (by trivial) ⟨rfl, rfl⟩
                  · rw [if_neg c56] at hF
                    cases hF
        · rw [if_neg h49] at hF
          refine am_Rr.go 3 (σ' := (if a = 4 then 32 else 36, [some (.ref 27), some (.int a), none, none, none], [], x)) rfl ?_
          refine am_Rr.ite (fun h57 => ?_) (fun h57 => ?_)
          · rw [if_pos h57] at hF
            refine am_Rr.go 7 (σ' := (52, [some (.ref 27), some (.int a), some (.int 1), some (.int 0), some (.int 0)], [], x)) rfl ?_
            refine am_Rr.weak (ls0 := [some (.ref 27), none, some (.int 1), some (.int 0), some (.int 0)]) (by simp [am_le]) ?_
            cases g62 : L_X8_count_52 1000 (1 : Int32) (0 : Int32) (0 : Int32) x with
            | none => rw [g62] at hF; cases hF
            | some q_ =>
              obtain ⟨v59, v60, v61, x58⟩ := q_
              rw [g62] at hF
              dsimp only at hF
              refine L_X8_count_52_ok d _ v59 v60 v61 x58 _ _ _ _ _ g62 ?_
              refine am_Rr.go 1 (σ' := (84, [some (.ref 27), none, some (.int v59), some (.int v60), some (.int v61)], [.int v60], x58)) rfl ?_
              obtain rfl := Option.some.inj hF
              exact am_Rr.ret (v := some (.int v60)) (x := x58) rfl (by trivial) ⟨rfl, rfl⟩
          · rw [if_neg h57] at hF
            refine am_Rr.go 3 (σ' := (if a = 5 then 41 else 45, [some (.ref 27), some (.int a), none, none, none], [], x)) rfl ?_
            refine am_Rr.ite (fun h63 => ?_) (fun h63 => ?_)
            · rw [if_pos h63] at hF
              refine am_Rr.go 7 (σ' := (52, [some (.ref 27), some (.int a), some (.int 2), some (.int 0), some (.int 0)], [], x)) rfl ?_
              refine am_Rr.weak (ls0 := [some (.ref 27), none, some (.int 2), some (.int 0), some (.int 0)]) (by simp [am_le]) ?_
              cases g68 : L_X8_count_52 1000 (2 : Int32) (0 : Int32) (0 : Int32) x with
              | none => rw [g68] at hF; cases hF
              | some q_ =>
                obtain ⟨v65, v66, v67, x64⟩ := q_
                rw [g68] at hF
                dsimp only at hF
                refine L_X8_count_52_ok d _ v65 v66 v67 x64 _ _ _ _ _ g68 ?_
                refine am_Rr.go 1 (σ' := (84, [some (.ref 27), none, some (.int v65), some (.int v66), some (.int v67)], [.int v66], x64)) rfl ?_
                obtain rfl := Option.some.inj hF
                exact am_Rr.ret (v := some (.int v66)) (x := x64) rfl (by trivial) ⟨rfl, rfl⟩
            · rw [if_neg h63] at hF
              refine am_Rr.go 6 (σ' := (52, [some (.ref 27), some (.int a), some (.int 5), some (.int 0), some (.int 0)], [], x)) rfl ?_
              refine am_Rr.weak (ls0 := [some (.ref 27), none, some (.int 5), some (.int 0), some (.int 0)]) (by simp [am_le]) ?_
              cases g73 : L_X8_count_52 1000 (5 : Int32) (0 : Int32) (0 : Int32) x with
              | none => rw [g73] at hF; cases hF
              | some q_ =>
                obtain ⟨v70, v71, v72, x69⟩ := q_
                rw [g73] at hF
                dsimp only at hF
                refine L_X8_count_52_ok d _ v70 v71 v72 x69 _ _ _ _ _ g73 ?_
                refine am_Rr.go 1 (σ' := (84, [some (.ref 27), none, some (.int v70), some (.int v71), some (.int v72)], [.int v71], x69)) rfl ?_
                obtain rfl := Option.some.inj hF
                exact am_Rr.ret (v := some (.int v71)) (x := x69) rfl (by trivial) ⟨rfl, rfl⟩
    · rw [if_neg h40] at hF
      refine am_Rr.go 3 (σ' := (14, [some (.ref 27), some (.int a), none, none, none], [.int a, .ref 29], x)) rfl ?_
      by_cases c74 : 0 ≤ a.toInt ∧ a.toInt < 56
      · rw [if_pos c74] at hF
        refine am_Rr.chk (σ' := (15, [some (.ref 27), some (.int a), none, none, none], [.int ((x.2.2.1 29) a.toNatClampNeg)], x)) rfl (by exact vp_in_iff.mpr c74) ?_
        obtain rfl := Option.some.inj hF
        exact am_Rr.ret (v := some (.int ((x.2.2.1 29) a.toNatClampNeg))) (x := x) rfl (by trivial) ⟨rfl, rfl⟩
      · rw [if_neg c74] at hF
        cases hF
