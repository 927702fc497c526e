noncomputable def L_X5_firstMisfit_13_7 : Nat → Nat → Int32 → Int32 → am_X → Option (Int32 × am_X)
  | 0, _, _, _, _ => none
  | n + 1, v1, v2, v3, x => (if (x.1 449) ≤ v3 then (if (x.1 449) ≤ 0 then some ((x.1 449), x) else (if 1000 ≤ v1 ∧ v1 < 1008 then (if v2 = (nI (am_byt v1).length) then some ((-1 : Int32), x) else some ((x.1 449), x)) else none)) else (if 1000 ≤ v1 ∧ v1 < 1008 then (if (nI (am_byt v1).length) ≤ v2 then (match G_X5_shapeBehind (am_nat14 (x.1 449) (x.2.2.1 15) v3) x with | none => none | some (r7, x8) => (if 1000 ≤ r7 ∧ r7 < 1008 then (if (am_ise r7) = 0 then L_X5_firstMisfit_13_7 n r7 (0 : Int32) (v3 + 1) x8 else some (v3, x8)) else none)) else (if 0 ≤ v2.toInt ∧ v2.toInt < ((am_byt v1).length : Int) then (match G_X5_fits (am_nat14 (x.1 449) (x.2.2.1 15) v3) (am_chr v1 v2) x with | none => none | some (r13, x14) => (if r13 = 0 then some (v3, x14) else L_X5_firstMisfit_13_7 n v1 (v2 + 1) (v3 + 1) x14)) else none)) else none))
theorem L_X5_firstMisfit_13_7_ok (d : Nat) (res : Int32 × am_X) : ∀ (n : Nat) (v1 : Nat) (v2 : Int32) (v3 : Int32) (x : am_X), L_X5_firstMisfit_13_7 n v1 v2 v3 x = some res → am_Rr (d + 6) kX5_firstMisfit (7, [some (.ref 13), some (.ref v1), some (.int v2), some (.int v3), none], [], x) (fun ro y => ro = some (.int res.1) ∧ res.2 = y) := by
  intro n
  induction n with
  | zero =>
    intro v1 v2 v3 x hF
    cases hF
  | succ n ih =>
    intro v1 v2 v3 x hF
    rw [L_X5_firstMisfit_13_7] at hF
    refine am_Rr.go 5 (σ' := (if (x.1 449) ≤ v3 then 80 else 18, [some (.ref 13), some (.ref v1), some (.int v2), some (.int v3), none], [], x)) rfl ?_
    refine am_Rr.ite (fun h1 => ?_) (fun h1 => ?_)
    · rw [if_pos h1] at hF
      refine am_Rr.go 4 (σ' := (if (x.1 449) ≤ 0 then 102 else 90, [some (.ref 13), some (.ref v1), some (.int v2), some (.int v3), none], [], x)) rfl ?_
      refine am_Rr.ite (fun h2 => ?_) (fun h2 => ?_)
      · rw [if_pos h2] at hF
        refine am_Rr.go 3 (σ' := (109, [some (.ref 13), some (.ref v1), some (.int v2), some (.int v3), none], [.int (x.1 449)], x)) rfl ?_
        obtain rfl := Option.some.inj hF
        exact am_Rr.ret (v := some (.int (x.1 449))) (x := x) rfl (by trivial) ⟨rfl, rfl⟩
      · rw [if_neg h2] at hF
        refine am_Rr.go 2 (σ' := (92, [some (.ref 13), some (.ref v1), some (.int v2), some (.int v3), none], [.ref v1, .int v2], x)) rfl ?_
        by_cases c3 : 1000 ≤ v1 ∧ v1 < 1008
        · rw [if_pos c3] at hF
          refine am_Rr.call (M := mJ0_length_8abf5) (as := [.ref v1]) (x := x) (pc := 95) (ls := [some (.ref 13), some (.ref v1), some (.int v2), some (.int v3), none]) (st := [.int v2]) (by rcases am_str8 c3 with rfl | rfl | rfl | rfl | rfl | rfl | rfl | rfl <;> rfl) (E_length (d + 3) v1 c3 x) ?_
          rintro _ _ ⟨rfl, rfl⟩
          show am_Rr _ _ (95, [some (.ref 13), some (.ref v1), some (.int v2), some (.int v3), none], [.int (nI (am_byt v1).length), .int v2], x) _
          refine am_Rr.go 1 (σ' := (if v2 = (nI (am_byt v1).length) then 98 else 102, [some (.ref 13), some (.ref v1), some (.int v2), some (.int v3), none], [], x)) rfl ?_
          refine am_Rr.ite (fun h4 => ?_) (fun h4 => ?_)
          · rw [if_pos h4] at hF
            refine am_Rr.go 2 (σ' := (109, [some (.ref 13), some (.ref v1), some (.int v2), some (.int v3), none], [.int (-1)], x)) rfl ?_
            obtain rfl := Option.some.inj hF
            exact am_Rr.ret (v := some (.int (-1))) (x := x) rfl (by trivial) ⟨rfl, rfl⟩
          · rw [if_neg h4] at hF
            refine am_Rr.go 3 (σ' := (109, [some (.ref 13), some (.ref v1), some (.int v2), some (.int v3), none], [.int (x.1 449)], x)) rfl ?_
            obtain rfl := Option.some.inj hF
            exact am_Rr.ret (v := some (.int (x.1 449))) (x := x) rfl (by trivial) ⟨rfl, rfl⟩
        · rw [if_neg c3] at hF
          cases hF
    · rw [if_neg h1] at hF
      refine am_Rr.go 3 (σ' := (23, [some (.ref 13), some (.ref v1), some (.int v2), some (.int v3), none], [.int v3, .ref 14], x)) rfl ?_
      refine am_Rr.call (pc := 26) (ls := [some (.ref 13), some (.ref v1), some (.int v2), some (.int v3), none]) (st := []) rfl (S_at_14 (d + 4) v3 x) ?_
      rintro _ _ ⟨rfl, rfl⟩
      show am_Rr _ _ (26, [some (.ref 13), some (.ref v1), some (.int v2), some (.int v3), none], [.int (am_nat14 (x.1 449) (x.2.2.1 15) v3)], x) _
      refine am_Rr.go 3 (σ' := (30, [some (.ref 13), some (.ref v1), some (.int v2), some (.int v3), some (.int (am_nat14 (x.1 449) (x.2.2.1 15) v3))], [.ref v1, .int v2], x)) rfl ?_
      by_cases c5 : 1000 ≤ v1 ∧ v1 < 1008
      · rw [if_pos c5] at hF
        refine am_Rr.call (M := mJ0_length_8abf5) (as := [.ref v1]) (x := x) (pc := 33) (ls := [some (.ref 13), some (.ref v1), some (.int v2), some (.int v3), some (.int (am_nat14 (x.1 449) (x.2.2.1 15) v3))]) (st := [.int v2]) (by rcases am_str8 c5 with rfl | rfl | rfl | rfl | rfl | rfl | rfl | rfl <;> rfl) (E_length (d + 3) v1 c5 x) ?_
        rintro _ _ ⟨rfl, rfl⟩
        show am_Rr _ _ (33, [some (.ref 13), some (.ref v1), some (.int v2), some (.int v3), some (.int (am_nat14 (x.1 449) (x.2.2.1 15) v3))], [.int (nI (am_byt v1).length), .int v2], x) _
        refine am_Rr.go 1 (σ' := (if (nI (am_byt v1).length) ≤ v2 then 57 else 36, [some (.ref 13), some (.ref v1), some (.int v2), some (.int v3), some (.int (am_nat14 (x.1 449) (x.2.2.1 15) v3))], [], x)) rfl ?_
        refine am_Rr.ite (fun h6 => ?_) (fun h6 => ?_)
        · rw [if_pos h6] at hF
          refine am_Rr.go 1 (σ' := (59, [some (.ref 13), some (.ref v1), some (.int v2), some (.int v3), some (.int (am_nat14 (x.1 449) (x.2.2.1 15) v3))], [.int (am_nat14 (x.1 449) (x.2.2.1 15) v3)], x)) rfl ?_
          cases g9 : G_X5_shapeBehind (am_nat14 (x.1 449) (x.2.2.1 15) v3) x with
          | none => rw [g9] at hF; cases hF
          | some q_ =>
            obtain ⟨r7, x8⟩ := q_
            rw [g9] at hF
            dsimp only at hF
            refine am_Rr.call (pc := 62) (ls := [some (.ref 13), some (.ref v1), some (.int v2), some (.int v3), some (.int (am_nat14 (x.1 449) (x.2.2.1 15) v3))]) (st := []) rfl (A_X5_shapeBehind (d + 4) g9) ?_
            rintro _ _ ⟨rfl, rfl⟩
            show am_Rr _ _ (62, [some (.ref 13), some (.ref v1), some (.int v2), some (.int v3), some (.int (am_nat14 (x.1 449) (x.2.2.1 15) v3))], [.ref r7], x8) _
            refine am_Rr.go 4 (σ' := (66, [some (.ref 13), some (.ref r7), some (.int 0), some (.int v3), some (.int (am_nat14 (x.1 449) (x.2.2.1 15) v3))], [.ref r7], x8)) rfl ?_
            by_cases c10 : 1000 ≤ r7 ∧ r7 < 1008
            · rw [if_pos c10] at hF
              refine am_Rr.call (M := mJ0_isEmpty_aae02) (as := [.ref r7]) (x := x8) (pc := 69) (ls := [some (.ref 13), some (.ref r7), some (.int 0), some (.int v3), some (.int (am_nat14 (x.1 449) (x.2.2.1 15) v3))]) (st := []) (by rcases am_str8 c10 with rfl | rfl | rfl | rfl | rfl | rfl | rfl | rfl <;> rfl) (E_isEmpty (d + 4) r7 c10 x8) ?_
              rintro _ _ ⟨rfl, rfl⟩
              show am_Rr _ _ (69, [some (.ref 13), some (.ref r7), some (.int 0), some (.int v3), some (.int (am_nat14 (x.1 449) (x.2.2.1 15) v3))], [.int (am_ise r7)], x8) _
              refine am_Rr.go 1 (σ' := (if (am_ise r7) = 0 then 74 else 72, [some (.ref 13), some (.ref r7), some (.int 0), some (.int v3), some (.int (am_nat14 (x.1 449) (x.2.2.1 15) v3))], [], x8)) rfl ?_
              refine am_Rr.ite (fun h11 => ?_) (fun h11 => ?_)
              · rw [if_pos h11] at hF
                refine am_Rr.go 2 (σ' := (7, [some (.ref 13), some (.ref r7), some (.int 0), some (.int (v3 + 1)), some (.int (am_nat14 (x.1 449) (x.2.2.1 15) v3))], [], x8)) rfl ?_
                refine am_Rr.weak (ls0 := [some (.ref 13), some (.ref r7), some (.int 0), some (.int (v3 + 1)), none]) (by simp [am_le]) ?_
                exact ih _ _ _ _ hF
              · rw [if_neg h11] at hF
                refine am_Rr.go 1 (σ' := (73, [some (.ref 13), some (.ref r7), some (.int 0), some (.int v3), some (.int (am_nat14 (x.1 449) (x.2.2.1 15) v3))], [.int v3], x8)) rfl ?_
                obtain rfl := Option.some.inj hF
                exact am_Rr.ret (v := some (.int v3)) (x := x8) rfl (by trivial) ⟨rfl, rfl⟩
            · rw [if_neg c10] at hF
              cases hF
        · rw [if_neg h6] at hF
          refine am_Rr.go 3 (σ' := (40, [some (.ref 13), some (.ref v1), some (.int v2), some (.int v3), some (.int (am_nat14 (x.1 449) (x.2.2.1 15) v3))], [.int v2, .ref v1, .int (am_nat14 (x.1 449) (x.2.2.1 15) v3)], x)) rfl ?_
          by_cases c12 : 0 ≤ v2.toInt ∧ v2.toInt < ((am_byt v1).length : Int)
          · rw [if_pos c12] at hF
            refine am_Rr.call (M := mJ0_charAt_5068e) (as := [.ref v1, .int v2]) (x := x) (pc := 43) (ls := [some (.ref 13), some (.ref v1), some (.int v2), some (.int v3), some (.int (am_nat14 (x.1 449) (x.2.2.1 15) v3))]) (st := [.int (am_nat14 (x.1 449) (x.2.2.1 15) v3)]) (by rcases am_str8 c5 with rfl | rfl | rfl | rfl | rfl | rfl | rfl | rfl <;> rfl) (E_charAt (d + 1) v1 v2 c5 c12 x) ?_
            rintro _ _ ⟨rfl, rfl⟩
            show am_Rr _ _ (43, [some (.ref 13), some (.ref v1), some (.int v2), some (.int v3), some (.int (am_nat14 (x.1 449) (x.2.2.1 15) v3))], [.int (am_chr v1 v2), .int (am_nat14 (x.1 449) (x.2.2.1 15) v3)], x) _
            cases g15 : G_X5_fits (am_nat14 (x.1 449) (x.2.2.1 15) v3) (am_chr v1 v2) x with
            | none => rw [g15] at hF; cases hF
            | some q_ =>
              obtain ⟨r13, x14⟩ := q_
              rw [g15] at hF
              dsimp only at hF
              refine am_Rr.call (pc := 46) (ls := [some (.ref 13), some (.ref v1), some (.int v2), some (.int v3), some (.int (am_nat14 (x.1 449) (x.2.2.1 15) v3))]) (st := []) rfl (A_X5_fits d g15) ?_
              rintro _ _ ⟨rfl, rfl⟩
              show am_Rr _ _ (46, [some (.ref 13), some (.ref v1), some (.int v2), some (.int v3), some (.int (am_nat14 (x.1 449) (x.2.2.1 15) v3))], [.int r13], x14) _
              refine am_Rr.go 1 (σ' := (if r13 = 0 then 49 else 51, [some (.ref 13), some (.ref v1), some (.int v2), some (.int v3), some (.int (am_nat14 (x.1 449) (x.2.2.1 15) v3))], [], x14)) rfl ?_
              refine am_Rr.ite (fun h16 => ?_) (fun h16 => ?_)
              · rw [if_pos h16] at hF
                refine am_Rr.go 1 (σ' := (50, [some (.ref 13), some (.ref v1), some (.int v2), some (.int v3), some (.int (am_nat14 (x.1 449) (x.2.2.1 15) v3))], [.int v3], x14)) rfl ?_
                obtain rfl := Option.some.inj hF
                exact am_Rr.ret (v := some (.int v3)) (x := x14) rfl (by trivial) ⟨rfl, rfl⟩
              · rw [if_neg h16] at hF
                refine am_Rr.go 4 (σ' := (7, [some (.ref 13), some (.ref v1), some (.int (v2 + 1)), some (.int (v3 + 1)), some (.int (am_nat14 (x.1 449) (x.2.2.1 15) v3))], [], x14)) rfl ?_
                refine am_Rr.weak (ls0 := [some (.ref 13), some (.ref v1), some (.int (v2 + 1)), some (.int (v3 + 1)), none]) (by simp [am_le]) ?_
                exact ih _ _ _ _ hF
          · rw [if_neg c12] at hF
            cases hF
      · rw [if_neg c5] at hF
        cases hF
noncomputable def G_X5_firstMisfit_13  (x : am_X) : Option (Int32 × am_X) := L_X5_firstMisfit_13_7 1000 1000 (0 : Int32) (0 : Int32) x
theorem A_X5_firstMisfit_13 (d : Nat)  {x : am_X} {res : Int32 × am_X} (hF : G_X5_firstMisfit_13  x = some res) : am_T (d + 7) mX5_firstMisfit [.ref 13] x (fun ro y => ro = some (.int res.1) ∧ res.2 = y) := by
  refine am_T.of rfl ?_
  show am_Rr (d + 6) kX5_firstMisfit (0, [some (.ref 13), none, none, none, none], [], x) _
  unfold G_X5_firstMisfit_13 at hF
  refine am_Rr.go 6 (σ' := (7, [some (.ref 13), some (.ref 1000), some (.int 0), some (.int 0), none], [], x)) rfl ?_
  exact L_X5_firstMisfit_13_7_ok d res _ _ _ _ _ hF
noncomputable def L_X5_tellTo_13_5_20 : Nat → Int32 → Int32 → am_X → Option (Int32 × am_X)
  | 0, _, _, _ => none
  | n + 1, v3, v4, x => (if (x.1 449) ≤ v4 then some (v3, x) else (if (96 : Int32) ≤ v3 then some (v3, x) else (match G_X5_comes_13_5 v4 x with | none => none | some (r7, x8) => (if r7 = 0 then some (((-2000 : Int32) - v4), x8) else (match G_X5_shapeBehind (am_nat14 (x8.1 449) (x8.2.2.1 15) v4) x8 with | none => none | some (r11, x12) => (if 1000 ≤ r11 ∧ r11 < 1008 then L_X5_tellTo_13_5_20 n (v3 + 1) (v4 + ((1 : Int32) + (nI (am_byt r11).length))) x12 else none))))))
theorem L_X5_tellTo_13_5_20_ok (d : Nat) (res : Int32 × am_X) : ∀ (n : Nat) (v3 : Int32) (v4 : Int32) (x : am_X), L_X5_tellTo_13_5_20 n v3 v4 x = some res → am_Rr (d + 7) kX5_tellTo (20, [some (.ref 13), some (.ref 5), none, some (.int v3), some (.int v4)], [], x) (fun ro y => ro = some (.int res.1) ∧ res.2 = y) := by
  intro n
  induction n with
  | zero =>
    intro v3 v4 x hF
    cases hF
  | succ n ih =>
    intro v3 v4 x hF
    rw [L_X5_tellTo_13_5_20] at hF
    refine am_Rr.go 5 (σ' := (if (x.1 449) ≤ v4 then 83 else 32, [some (.ref 13), some (.ref 5), none, some (.int v3), some (.int v4)], [], x)) rfl ?_
    refine am_Rr.ite (fun h5 => ?_) (fun h5 => ?_)
    · rw [if_pos h5] at hF
      refine am_Rr.go 1 (σ' := (84, [some (.ref 13), some (.ref 5), none, some (.int v3), some (.int v4)], [.int v3], x)) rfl ?_
      obtain rfl := Option.some.inj hF
      exact am_Rr.ret (v := some (.int v3)) (x := x) rfl (by trivial) ⟨rfl, rfl⟩
    · rw [if_neg h5] at hF
      refine am_Rr.go 3 (σ' := (if (96 : Int32) ≤ v3 then 83 else 38, [some (.ref 13), some (.ref 5), none, some (.int v3), some (.int v4)], [], x)) rfl ?_
      refine am_Rr.ite (fun h6 => ?_) (fun h6 => ?_)
      · rw [if_pos h6] at hF
        refine am_Rr.go 1 (σ' := (84, [some (.ref 13), some (.ref 5), none, some (.int v3), some (.int v4)], [.int v3], x)) rfl ?_
        obtain rfl := Option.some.inj hF
        exact am_Rr.ret (v := some (.int v3)) (x := x) rfl (by trivial) ⟨rfl, rfl⟩
      · rw [if_neg h6] at hF
        refine am_Rr.go 3 (σ' := (42, [some (.ref 13), some (.ref 5), none, some (.int v3), some (.int v4)], [.int v4, .ref 5, .ref 13], x)) rfl ?_
        cases g9 : G_X5_comes_13_5 v4 x with
        | none => rw [g9] at hF; cases hF
        | some q_ =>
          obtain ⟨r7, x8⟩ := q_
          rw [g9] at hF
          dsimp only at hF
          refine am_Rr.call (pc := 45) (ls := [some (.ref 13), some (.ref 5), none, some (.int v3), some (.int v4)]) (st := []) rfl (A_X5_comes_13_5 (d + 1) g9) ?_
          rintro _ _ ⟨rfl, rfl⟩
          show am_Rr _ _ (45, [some (.ref 13), some (.ref 5), none, some (.int v3), some (.int v4)], [.int r7], x8) _
          refine am_Rr.go 1 (σ' := (if r7 = 0 then 48 else 55, [some (.ref 13), some (.ref 5), none, some (.int v3), some (.int v4)], [], x8)) rfl ?_
          refine am_Rr.ite (fun h10 => ?_) (fun h10 => ?_)
          · rw [if_pos h10] at hF
            refine am_Rr.go 3 (σ' := (54, [some (.ref 13), some (.ref 5), none, some (.int v3), some (.int v4)], [.int ((-2000 : Int32) - v4)], x8)) rfl ?_
            obtain rfl := Option.some.inj hF
            exact am_Rr.ret (v := some (.int ((-2000 : Int32) - v4))) (x := x8) rfl (by trivial) ⟨rfl, rfl⟩
          · rw [if_neg h10] at hF
            refine am_Rr.go 6 (σ' := (67, [some (.ref 13), some (.ref 5), none, some (.int (v3 + 1)), some (.int v4)], [.int v4, .ref 14, .int 1, .int v4], x8)) rfl ?_
            refine am_Rr.call (pc := 70) (ls := [some (.ref 13), some (.ref 5), none, some (.int (v3 + 1)), some (.int v4)]) (st := [.int 1, .int v4]) rfl (S_at_14 (d + 5) v4 x8) ?_
            rintro _ _ ⟨rfl, rfl⟩
            show am_Rr _ _ (70, [some (.ref 13), some (.ref 5), none, some (.int (v3 + 1)), some (.int v4)], [.int (am_nat14 (x8.1 449) (x8.2.2.1 15) v4), .int 1, .int v4], x8) _
            cases g13 : G_X5_shapeBehind (am_nat14 (x8.1 449) (x8.2.2.1 15) v4) x8 with
            | none => rw [g13] at hF; cases hF
            | some q_ =>
              obtain ⟨r11, x12⟩ := q_
              rw [g13] at hF
              dsimp only at hF
              refine am_Rr.call (pc := 73) (ls := [some (.ref 13), some (.ref 5), none, some (.int (v3 + 1)), some (.int v4)]) (st := [.int 1, .int v4]) rfl (A_X5_shapeBehind (d + 5) g13) ?_
              rintro _ _ ⟨rfl, rfl⟩
              show am_Rr _ _ (73, [some (.ref 13), some (.ref 5), none, some (.int (v3 + 1)), some (.int v4)], [.ref r11, .int 1, .int v4], x12) _
              by_cases c14 : 1000 ≤ r11 ∧ r11 < 1008
              · rw [if_pos c14] at hF
                refine am_Rr.call (M := mJ0_length_8abf5) (as := [.ref r11]) (x := x12) (pc := 76) (ls := [some (.ref 13), some (.ref 5), none, some (.int (v3 + 1)), some (.int v4)]) (st := [.int 1, .int v4]) (by rcases am_str8 c14 with rfl | rfl | rfl | rfl | rfl | rfl | rfl | rfl <;> rfl) (E_length (d + 4) r11 c14 x12) ?_
                rintro _ _ ⟨rfl, rfl⟩
                show am_Rr _ _ (76, [some (.ref 13), some (.ref 5), none, some (.int (v3 + 1)), some (.int v4)], [.int (nI (am_byt r11).length), .int 1, .int v4], x12) _
                refine am_Rr.go 4 (σ' := (20, [some (.ref 13), some (.ref 5), none, some (.int (v3 + 1)), some (.int (v4 + ((1 : Int32) + (nI (am_byt r11).length))))], [], x12)) rfl ?_
                exact ih _ _ _ hF
              · rw [if_neg c14] at hF
                cases hF
noncomputable def G_X5_tellTo_13_5  (x : am_X) : Option (Int32 × am_X) := (match G_X5_firstMisfit_13  x with | none => none | some (r1, x2) => (if r1 < 0 then L_X5_tellTo_13_5_20 1000 (0 : Int32) (0 : Int32) x2 else some (((-1000 : Int32) - r1), x2)))
theorem A_X5_tellTo_13_5 (d : Nat)  {x : am_X} {res : Int32 × am_X} (hF : G_X5_tellTo_13_5  x = some res) : am_T (d + 8) mX5_tellTo [.ref 13, .ref 5] x (fun ro y => ro = some (.int res.1) ∧ res.2 = y) := by
  refine am_T.of rfl ?_
  show am_Rr (d + 7) kX5_tellTo (0, [some (.ref 13), some (.ref 5), none, none, none], [], x) _
  unfold G_X5_tellTo_13_5 at hF
  refine am_Rr.go 1 (σ' := (1, [some (.ref 13), some (.ref 5), none, none, none], [.ref 13], x)) rfl ?_
  cases g3 : G_X5_firstMisfit_13  x with
  | none => rw [g3] at hF; cases hF
  | some q_ =>
    obtain ⟨r1, x2⟩ := q_
    rw [g3] at hF
    dsimp only at hF
    refine am_Rr.call (pc := 4) (ls := [some (.ref 13), some (.ref 5), none, none, none]) (st := []) rfl (A_X5_firstMisfit_13 d g3) ?_
    rintro _ _ ⟨rfl, rfl⟩
    show am_Rr _ _ (4, [some (.ref 13), some (.ref 5), none, none, none], [.int r1], x2) _
    refine am_Rr.go 3 (σ' := (if r1 < 0 then 15 else 9, [some (.ref 13), some (.ref 5), some (.int r1), none, none], [], x2)) rfl ?_
    refine am_Rr.ite (fun h4 => ?_) (fun h4 => ?_)
    · rw [if_pos h4] at hF
      refine am_Rr.go 4 (σ' := (20, [some (.ref 13), some (.ref 5), some (.int r1), some (.int 0), some (.int 0)], [], x2)) rfl ?_
      refine am_Rr.weak (ls0 := [some (.ref 13), some (.ref 5), none, some (.int 0), some (.int 0)]) (by simp [am_le]) ?_
      exact L_X5_tellTo_13_5_20_ok d res _ _ _ _ hF
    · rw [if_neg h4] at hF
      refine am_Rr.go 3 (σ' := (14, [some (.ref 13), some (.ref 5), some (.int r1), none, none], [.int ((-1000 : Int32) - r1)], x2)) rfl ?_
      obtain rfl := Option.some.inj hF
      exact am_Rr.ret (v := some (.int ((-1000 : Int32) - r1))) (x := x2) rfl (by trivial) ⟨rfl, rfl⟩
noncomputable def G_X7_garden  (x : am_X) : Option (Int32 × am_X) := (match G_X5_tellTo_13_5  (am_bec_5_1 x) with | none => none | some (r1, x2) => (if r1 ≤ 0 then some (r1, (am_uI x2 449 0)) else some (r1, (am_bec_1_5 (am_uI x2 449 0)))))
theorem A_X7_garden (d : Nat)  {x : am_X} {res : Int32 × am_X} (hF : G_X7_garden  x = some res) : am_T (d + 9) mX7_garden [.ref 0] x (fun ro y => ro = some (.int res.1) ∧ res.2 = y) := by
  refine am_T.of rfl ?_
  show am_Rr (d + 8) kX7_garden (0, [some (.ref 0), none], [], x) _
  unfold G_X7_garden at hF
  refine am_Rr.go 4 (σ' := (8, [some (.ref 0), none], [.ref 1, .ref 5], x)) rfl ?_
  refine am_Rr.call (pc := 11) (ls := [some (.ref 0), none]) (st := []) rfl (S_become_5_1 (d + 6) x) ?_
  rintro _ _ ⟨rfl, rfl⟩
  show am_Rr _ _ (11, [some (.ref 0), none], [], (am_bec_5_1 x)) _
  refine am_Rr.go 4 (σ' := (19, [some (.ref 0), none], [.ref 5, .ref 13], (am_bec_5_1 x))) rfl ?_
  cases g3 : G_X5_tellTo_13_5  (am_bec_5_1 x) with
  | none => rw [g3] at hF; cases hF
  | some q_ =>
    obtain ⟨r1, x2⟩ := q_
    rw [g3] at hF
    dsimp only at hF
    refine am_Rr.call (pc := 22) (ls := [some (.ref 0), none]) (st := []) rfl (A_X5_tellTo_13_5 d g3) ?_
    rintro _ _ ⟨rfl, rfl⟩
    show am_Rr _ _ (22, [some (.ref 0), none], [.int r1], x2) _
    refine am_Rr.go 4 (σ' := (30, [some (.ref 0), some (.int r1)], [.ref 14], x2)) rfl ?_
    refine am_Rr.call (pc := 33) (ls := [some (.ref 0), some (.int r1)]) (st := []) rfl (S_clear_14 (d + 6)  x2) ?_
    rintro _ _ ⟨rfl, rfl⟩
    show am_Rr _ _ (33, [some (.ref 0), some (.int r1)], [], (am_uI x2 449 0)) _
    refine am_Rr.go 2 (σ' := (if r1 ≤ 0 then 48 else 37, [some (.ref 0), some (.int r1)], [], (am_uI x2 449 0))) rfl ?_
    refine am_Rr.ite (fun h4 => ?_) (fun h4 => ?_)
    · rw [if_pos h4] at hF
      refine am_Rr.go 1 (σ' := (49, [some (.ref 0), some (.int r1)], [.int r1], (am_uI x2 449 0))) rfl ?_
      obtain rfl := Option.some.inj hF
      exact am_Rr.ret (v := some (.int r1)) (x := (am_uI x2 449 0)) rfl (by trivial) ⟨rfl, rfl⟩
    · rw [if_neg h4] at hF
      refine am_Rr.go 4 (σ' := (45, [some (.ref 0), some (.int r1)], [.ref 5, .ref 1], (am_uI x2 449 0))) rfl ?_
      refine am_Rr.call (pc := 48) (ls := [some (.ref 0), some (.int r1)]) (st := []) rfl (S_become_1_5 (d + 6) (am_uI x2 449 0)) ?_
      rintro _ _ ⟨rfl, rfl⟩
      show am_Rr _ _ (48, [some (.ref 0), some (.int r1)], [], (am_bec_1_5 (am_uI x2 449 0))) _
      refine am_Rr.go 1 (σ' := (49, [some (.ref 0), some (.int r1)], [.int r1], (am_bec_1_5 (am_uI x2 449 0)))) rfl ?_
      obtain rfl := Option.some.inj hF
      exact am_Rr.ret (v := some (.int r1)) (x := (am_bec_1_5 (am_uI x2 449 0))) rfl (by trivial) ⟨rfl, rfl⟩
