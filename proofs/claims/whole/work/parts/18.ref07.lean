noncomputable def G_X8_waits (a : Int32) (b : Int32) (e : Int32) (x : am_X) : Option (Int32 × am_X) := (if a = 0 then some (b, x) else (if a = 1 then (match G_X8_apart b e x with | none => none | some (r3, x4) => some (r3, x4)) else (if a = 2 then (match G_X8_besideInSet b x with | none => none | some (r7, x8) => some ((-r7), x8)) else (if a = 3 then (match G_X8_besideInSet b x with | none => none | some (r11, x12) => (if r11 = 0 then some ((100000 : Int32), x12) else (match G_X8_besideInSet b x12 with | none => none | some (r15, x16) => some (r15, x16)))) else (if a = 4 then (match G_X8_toRoad b x with | none => none | some (r19, x20) => (if (100000 : Int32) ≤ r19 then (match G_X8_apart b e x20 with | none => none | some (r23, x24) => some (r23, x24)) else (match G_X8_toRoad b x20 with | none => none | some (r26, x27) => some (r26, x27)))) else (match G_X8_apart b e x with | none => none | some (r29, x30) => some (r29, x30)))))))
theorem A_X8_waits (d : Nat) {a : Int32} {b : Int32} {e : Int32} {x : am_X} {res : Int32 × am_X} (hF : G_X8_waits a b e x = some res) : am_T (d + 4) mX8_waits [.ref 27, .int a, .int b, .int e] x (fun ro y => ro = some (.int res.1) ∧ res.2 = y) := by
  refine am_T.of rfl ?_
  show am_Rr (d + 3) kX8_waits (0, [some (.ref 27), some (.int a), some (.int b), some (.int e)], [], x) _
  unfold G_X8_waits at hF
  refine am_Rr.go 2 (σ' := ((if a = 0 then 36 else (if a = 1 then 89 else (if a = 2 then 38 else (if a = 3 then 45 else (if a = 4 then 64 else 89))))), [some (.ref 27), some (.int a), some (.int b), some (.int e)], [], x)) rfl ?_
  refine am_Rr.ite (fun h1 => ?_) (fun h1 => ?_)
  · rw [if_pos h1] at hF
    refine am_Rr.go 1 (σ' := (37, [some (.ref 27), some (.int a), some (.int b), some (.int e)], [.int b], x)) rfl ?_
    obtain rfl := Option.some.inj hF
    exact am_Rr.ret (v := some (.int b)) (x := x) rfl (by trivial) ⟨rfl, rfl⟩
  rw [if_neg h1] at hF
  refine am_Rr.ite (fun h2 => ?_) (fun h2 => ?_)
  · rw [if_pos h2] at hF
    refine am_Rr.go 3 (σ' := (92, [some (.ref 27), some (.int a), some (.int b), some (.int e)], [.int e, .int b, .ref 27], x)) rfl ?_
    cases g5 : G_X8_apart b e x with
    | none => rw [g5] at hF; cases hF
    | some q_ =>
      obtain ⟨r3, x4⟩ := q_
      rw [g5] at hF
      dsimp only at hF
      refine am_Rr.call (pc := 95) (ls := [some (.ref 27), some (.int a), some (.int b), some (.int e)]) (st := []) rfl (A_X8_apart (d + 1) g5) ?_
      rintro _ _ ⟨rfl, rfl⟩
      show am_Rr _ _ (95, [some (.ref 27), some (.int a), some (.int b), some (.int e)], [.int r3], x4) _
      obtain rfl := Option.some.inj hF
      exact am_Rr.ret (v := some (.int r3)) (x := x4) rfl (by trivial) ⟨rfl, rfl⟩
  rw [if_neg h2] at hF
  refine am_Rr.ite (fun h6 => ?_) (fun h6 => ?_)
  · rw [if_pos h6] at hF
    refine am_Rr.go 2 (σ' := (40, [some (.ref 27), some (.int a), some (.int b), some (.int e)], [.int b, .ref 27], x)) rfl ?_
    cases g9 : G_X8_besideInSet b x with
    | none => rw [g9] at hF; cases hF
    | some q_ =>
      obtain ⟨r7, x8⟩ := q_
      rw [g9] at hF
      dsimp only at hF
      refine am_Rr.call (pc := 43) (ls := [some (.ref 27), some (.int a), some (.int b), some (.int e)]) (st := []) rfl (A_X8_besideInSet d g9) ?_
      rintro _ _ ⟨rfl, rfl⟩
      show am_Rr _ _ (43, [some (.ref 27), some (.int a), some (.int b), some (.int e)], [.int r7], x8) _
      refine am_Rr.go 1 (σ' := (44, [some (.ref 27), some (.int a), some (.int b), some (.int e)], [.int (-r7)], x8)) rfl ?_
      obtain rfl := Option.some.inj hF
      exact am_Rr.ret (v := some (.int (-r7))) (x := x8) rfl (by trivial) ⟨rfl, rfl⟩
  rw [if_neg h6] at hF
  refine am_Rr.ite (fun h10 => ?_) (fun h10 => ?_)
  · rw [if_pos h10] at hF
    refine am_Rr.go 2 (σ' := (47, [some (.ref 27), some (.int a), some (.int b), some (.int e)], [.int b, .ref 27], x)) rfl ?_
    cases g13 : G_X8_besideInSet b x with
    | none => rw [g13] at hF; cases hF
    | some q_ =>
      obtain ⟨r11, x12⟩ := q_
      rw [g13] at hF
      dsimp only at hF
      refine am_Rr.call (pc := 50) (ls := [some (.ref 27), some (.int a), some (.int b), some (.int e)]) (st := []) rfl (A_X8_besideInSet d g13) ?_
      rintro _ _ ⟨rfl, rfl⟩
      show am_Rr _ _ (50, [some (.ref 27), some (.int a), some (.int b), some (.int e)], [.int r11], x12) _
      refine am_Rr.go 1 (σ' := (if r11 = 0 then 53 else 58, [some (.ref 27), some (.int a), some (.int b), some (.int e)], [], x12)) rfl ?_
      refine am_Rr.ite (fun h14 => ?_) (fun h14 => ?_)
      · rw [if_pos h14] at hF
        refine am_Rr.go 2 (σ' := (63, [some (.ref 27), some (.int a), some (.int b), some (.int e)], [.int 100000], x12)) rfl ?_
        obtain rfl := Option.some.inj hF
        exact am_Rr.ret (v := some (.int 100000)) (x := x12) rfl (by trivial) ⟨rfl, rfl⟩
      · rw [if_neg h14] at hF
        refine am_Rr.go 2 (σ' := (60, [some (.ref 27), some (.int a), some (.int b), some (.int e)], [.int b, .ref 27], x12)) rfl ?_
        cases g17 : G_X8_besideInSet b x12 with
        | none => rw [g17] at hF; cases hF
        | some q_ =>
          obtain ⟨r15, x16⟩ := q_
          rw [g17] at hF
          dsimp only at hF
          refine am_Rr.call (pc := 63) (ls := [some (.ref 27), some (.int a), some (.int b), some (.int e)]) (st := []) rfl (A_X8_besideInSet d g17) ?_
          rintro _ _ ⟨rfl, rfl⟩
          show am_Rr _ _ (63, [some (.ref 27), some (.int a), some (.int b), some (.int e)], [.int r15], x16) _
          obtain rfl := Option.some.inj hF
          exact am_Rr.ret (v := some (.int r15)) (x := x16) rfl (by trivial) ⟨rfl, rfl⟩
  rw [if_neg h10] at hF
  refine am_Rr.ite (fun h18 => ?_) (fun h18 => ?_)
  · rw [if_pos h18] at hF
    refine am_Rr.go 2 (σ' := (66, [some (.ref 27), some (.int a), some (.int b), some (.int e)], [.int b, .ref 27], x)) rfl ?_
    cases g21 : G_X8_toRoad b x with
    | none => rw [g21] at hF; cases hF
    | some q_ =>
      obtain ⟨r19, x20⟩ := q_
      rw [g21] at hF
      dsimp only at hF
      refine am_Rr.call (pc := 69) (ls := [some (.ref 27), some (.int a), some (.int b), some (.int e)]) (st := []) rfl (A_X8_toRoad d g21) ?_
      rintro _ _ ⟨rfl, rfl⟩
      show am_Rr _ _ (69, [some (.ref 27), some (.int a), some (.int b), some (.int e)], [.int r19], x20) _
      refine am_Rr.go 2 (σ' := (if (100000 : Int32) ≤ r19 then 82 else 74, [some (.ref 27), some (.int a), some (.int b), some (.int e)], [], x20)) rfl ?_
      refine am_Rr.ite (fun h22 => ?_) (fun h22 => ?_)
      · rw [if_pos h22] at hF
        refine am_Rr.go 3 (σ' := (85, [some (.ref 27), some (.int a), some (.int b), some (.int e)], [.int e, .int b, .ref 27], x20)) rfl ?_
        cases g25 : G_X8_apart b e x20 with
        | none => rw [g25] at hF; cases hF
        | some q_ =>
          obtain ⟨r23, x24⟩ := q_
          rw [g25] at hF
          dsimp only at hF
          refine am_Rr.call (pc := 88) (ls := [some (.ref 27), some (.int a), some (.int b), some (.int e)]) (st := []) rfl (A_X8_apart (d + 1) g25) ?_
          rintro _ _ ⟨rfl, rfl⟩
          show am_Rr _ _ (88, [some (.ref 27), some (.int a), some (.int b), some (.int e)], [.int r23], x24) _
          obtain rfl := Option.some.inj hF
          exact am_Rr.ret (v := some (.int r23)) (x := x24) rfl (by trivial) ⟨rfl, rfl⟩
      · rw [if_neg h22] at hF
        refine am_Rr.go 2 (σ' := (76, [some (.ref 27), some (.int a), some (.int b), some (.int e)], [.int b, .ref 27], x20)) rfl ?_
        cases g28 : G_X8_toRoad b x20 with
        | none => rw [g28] at hF; cases hF
        | some q_ =>
          obtain ⟨r26, x27⟩ := q_
          rw [g28] at hF
          dsimp only at hF
          refine am_Rr.call (pc := 79) (ls := [some (.ref 27), some (.int a), some (.int b), some (.int e)]) (st := []) rfl (A_X8_toRoad d g28) ?_
          rintro _ _ ⟨rfl, rfl⟩
          show am_Rr _ _ (79, [some (.ref 27), some (.int a), some (.int b), some (.int e)], [.int r26], x27) _
          refine am_Rr.go 1 (σ' := (88, [some (.ref 27), some (.int a), some (.int b), some (.int e)], [.int r26], x27)) rfl ?_
          obtain rfl := Option.some.inj hF
          exact am_Rr.ret (v := some (.int r26)) (x := x27) rfl (by trivial) ⟨rfl, rfl⟩
  rw [if_neg h18] at hF
  refine am_Rr.go 3 (σ' := (92, [some (.ref 27), some (.int a), some (.int b), some (.int e)], [.int e, .int b, .ref 27], x)) rfl ?_
  cases g31 : G_X8_apart b e x with
  | none => rw [g31] at hF; cases hF
  | some q_ =>
    obtain ⟨r29, x30⟩ := q_
    rw [g31] at hF
    dsimp only at hF
    refine am_Rr.call (pc := 95) (ls := [some (.ref 27), some (.int a), some (.int b), some (.int e)]) (st := []) rfl (A_X8_apart (d + 1) g31) ?_
    rintro _ _ ⟨rfl, rfl⟩
    show am_Rr _ _ (95, [some (.ref 27), some (.int a), some (.int b), some (.int e)], [.int r29], x30) _
    obtain rfl := Option.some.inj hF
    exact am_Rr.ret (v := some (.int r29)) (x := x30) rfl (by trivial) ⟨rfl, rfl⟩
noncomputable def L_X8_passes_40 : Nat → Int32 → am_X → Option (Int32 × am_X)
  | 0, _, _ => none
  | n + 1, v2, x => (if (36 : Int32) ≤ v2 then some (v2, x) else (if 0 ≤ v2.toInt ∧ v2.toInt < 36 then L_X8_passes_40 n (v2 + 1) (am_sA x 40 (upd (x.2.2.1 40) v2.toNatClampNeg (vp_nar .boolean ((x.2.2.1 39) v2.toNatClampNeg)))) else none))
theorem L_X8_passes_40_ok (d : Nat) (post : Option Value → am_X → Prop) (w2 : Int32) (y : am_X) : ∀ (n : Nat) (v2 : Int32) (x : am_X), L_X8_passes_40 n v2 x = some (w2, y) → am_Rr (d + 3) kX8_passes (64, [some (.ref 27), none, some (.int w2), none, none], [], y) post → am_Rr (d + 3) kX8_passes (40, [some (.ref 27), none, some (.int v2), none, none], [], x) post := by
  intro n
  induction n with
  | zero =>
    intro v2 x hF
    cases hF
  | succ n ih =>
    intro v2 x hF hk
    rw [L_X8_passes_40] at hF
    refine am_Rr.go 3 (σ' := (if (36 : Int32) ≤ v2 then 64 else 46, [some (.ref 27), none, some (.int v2), none, none], [], x)) rfl ?_
    refine am_Rr.ite (fun h4 => ?_) (fun h4 => ?_)
    · rw [if_pos h4] at hF
      cases hF
      exact hk
    · rw [if_neg h4] at hF
      refine am_Rr.go 6 (σ' := (56, [some (.ref 27), none, some (.int v2), none, none], [.int v2, .ref 39, .int v2, .ref 40], x)) rfl ?_
      by_cases c5 : 0 ≤ v2.toInt ∧ v2.toInt < 36
      · rw [if_pos c5] at hF
        refine am_Rr.chk (σ' := (57, [some (.ref 27), none, some (.int v2), none, none], [.int ((x.2.2.1 39) v2.toNatClampNeg), .int v2, .ref 40], x)) rfl (by exact vp_in_iff.mpr c5) ?_
        refine am_Rr.chk (σ' := (58, [some (.ref 27), none, some (.int v2), none, none], [], (am_sA x 40 (upd (x.2.2.1 40) v2.toNatClampNeg (vp_nar .boolean ((x.2.2.1 39) v2.toNatClampNeg)))))) rfl (by exact vp_in_iff.mpr c5) ?_
        refine am_Rr.go 2 (σ' := (40, [some (.ref 27), none, some (.int (v2 + 1)), none, none], [], (am_sA x 40 (upd (x.2.2.1 40) v2.toNatClampNeg (vp_nar .boolean ((x.2.2.1 39) v2.toNatClampNeg)))))) rfl ?_
        exact ih _ _ hF hk
      · rw [if_neg c5] at hF
        cases hF
noncomputable def L_X8_passes_74 : Nat → Int32 → Int32 → am_X → Option (Int32 × Int32 × am_X)
  | 0, _, _, _ => none
  | n + 1, v2, v3, x => (if (4 : Int32) ≤ v3 then some (v2, v3, x) else (if 0 ≤ v2.toInt ∧ v2.toInt < 36 then (if ((x.2.2.1 40) v2.toNatClampNeg) = 0 then some (v2, v3, x) else (match G_X8_kindOf v2 x with | none => none | some (r13, x14) => (if r13 = 5 then some (v2, v3, x14) else (match G_X8_beside v2 v3 x14 with | none => none | some (r17, x18) => (if r17 = (-9) then L_X8_passes_74 n v2 (v3 + 1) x18 else (match G_X8_canBe r17 x18 with | none => none | some (r21, x22) => (if r21 = 0 then L_X8_passes_74 n v2 (v3 + 1) x22 else (if 0 ≤ r17.toInt ∧ r17.toInt < 36 then L_X8_passes_74 n v2 (v3 + 1) (am_sA x22 39 (upd (x22.2.2.1 39) r17.toNatClampNeg 1)) else none)))))))) else none))
theorem L_X8_passes_74_ok (d : Nat) (post : Option Value → am_X → Prop) (w2 : Int32) (w3 : Int32) (y : am_X) : ∀ (n : Nat) (v2 : Int32) (v3 : Int32) (x : am_X), L_X8_passes_74 n v2 v3 x = some (w2, w3, y) → am_Rr (d + 3) kX8_passes (134, [some (.ref 27), none, some (.int w2), some (.int w3), none], [], y) post → am_Rr (d + 3) kX8_passes (74, [some (.ref 27), none, some (.int v2), some (.int v3), none], [], x) post := by
  intro n
  induction n with
  | zero =>
    intro v2 v3 x hF
    cases hF
  | succ n ih =>
    intro v2 v3 x hF hk
    rw [L_X8_passes_74] at hF
    refine am_Rr.go 3 (σ' := (if (4 : Int32) ≤ v3 then 134 else 79, [some (.ref 27), none, some (.int v2), some (.int v3), none], [], x)) rfl ?_
    refine am_Rr.ite (fun h10 => ?_) (fun h10 => ?_)
    · rw [if_pos h10] at hF
      cases hF
      exact hk
    · rw [if_neg h10] at hF
      refine am_Rr.go 3 (σ' := (84, [some (.ref 27), none, some (.int v2), some (.int v3), none], [.int v2, .ref 40], x)) rfl ?_
      by_cases c11 : 0 ≤ v2.toInt ∧ v2.toInt < 36
      · rw [if_pos c11] at hF
        refine am_Rr.chk (σ' := (85, [some (.ref 27), none, some (.int v2), some (.int v3), none], [.int ((x.2.2.1 40) v2.toNatClampNeg)], x)) rfl (by exact vp_in_iff.mpr c11) ?_
        refine am_Rr.go 1 (σ' := (if ((x.2.2.1 40) v2.toNatClampNeg) = 0 then 134 else 88, [some (.ref 27), none, some (.int v2), some (.int v3), none], [], x)) rfl ?_
        refine am_Rr.ite (fun h12 => ?_) (fun h12 => ?_)
        · rw [if_pos h12] at hF
          cases hF
          exact hk
        · rw [if_neg h12] at hF
          refine am_Rr.go 2 (σ' := (90, [some (.ref 27), none, some (.int v2), some (.int v3), none], [.int v2, .ref 27], x)) rfl ?_
          cases g15 : G_X8_kindOf v2 x with
          | none => rw [g15] at hF; cases hF
          | some q_ =>
            obtain ⟨r13, x14⟩ := q_
            rw [g15] at hF
            dsimp only at hF
            refine am_Rr.call (pc := 93) (ls := [some (.ref 27), none, some (.int v2), some (.int v3), none]) (st := []) rfl (A_X8_kindOf (d + 1) g15) ?_
            rintro _ _ ⟨rfl, rfl⟩
            show am_Rr _ _ (93, [some (.ref 27), none, some (.int v2), some (.int v3), none], [.int r13], x14) _
            refine am_Rr.go 2 (σ' := (if r13 = 5 then 134 else 97, [some (.ref 27), none, some (.int v2), some (.int v3), none], [], x14)) rfl ?_
            refine am_Rr.ite (fun h16 => ?_) (fun h16 => ?_)
            · rw [if_pos h16] at hF
              cases hF
              exact hk
            · rw [if_neg h16] at hF
              refine am_Rr.go 2 (σ' := (99, [some (.ref 27), none, some (.int v2), some (.int v3), none], [.int v3, .int v2], x14)) rfl ?_
              cases g19 : G_X8_beside v2 v3 x14 with
              | none => rw [g19] at hF; cases hF
              | some q_ =>
                obtain ⟨r17, x18⟩ := q_
                rw [g19] at hF
                dsimp only at hF
                refine am_Rr.call (pc := 102) (ls := [some (.ref 27), none, some (.int v2), some (.int v3), none]) (st := []) rfl (A_X8_beside (d + 1) g19) ?_
                rintro _ _ ⟨rfl, rfl⟩
                show am_Rr _ _ (102, [some (.ref 27), none, some (.int v2), some (.int v3), none], [.int r17], x18) _
                refine am_Rr.go 4 (σ' := (if r17 = (-9) then 128 else 111, [some (.ref 27), none, some (.int v2), some (.int v3), some (.int r17)], [], x18)) rfl ?_
                refine am_Rr.ite (fun h20 => ?_) (fun h20 => ?_)
                · rw [if_pos h20] at hF
                  refine am_Rr.go 2 (σ' := (74, [some (.ref 27), none, some (.int v2), some (.int (v3 + 1)), some (.int r17)], [], x18)) rfl ?_
                  refine am_Rr.weak (ls0 := [some (.ref 27), none, some (.int v2), some (.int (v3 + 1)), none]) (by simp [am_le]) ?_
                  exact ih _ _ _ hF hk
                · rw [if_neg h20] at hF
                  refine am_Rr.go 2 (σ' := (114, [some (.ref 27), none, some (.int v2), some (.int v3), some (.int r17)], [.int r17, .ref 27], x18)) rfl ?_
                  cases g23 : G_X8_canBe r17 x18 with
                  | none => rw [g23] at hF; cases hF
                  | some q_ =>
                    obtain ⟨r21, x22⟩ := q_
                    rw [g23] at hF
                    dsimp only at hF
                    refine am_Rr.call (pc := 117) (ls := [some (.ref 27), none, some (.int v2), some (.int v3), some (.int r17)]) (st := []) rfl (A_X8_canBe d g23) ?_
                    rintro _ _ ⟨rfl, rfl⟩
                    show am_Rr _ _ (117, [some (.ref 27), none, some (.int v2), some (.int v3), some (.int r17)], [.int r21], x22) _
                    refine am_Rr.go 1 (σ' := (if r21 = 0 then 128 else 120, [some (.ref 27), none, some (.int v2), some (.int v3), some (.int r17)], [], x22)) rfl ?_
                    refine am_Rr.ite (fun h24 => ?_) (fun h24 => ?_)
                    · rw [if_pos h24] at hF
                      refine am_Rr.go 2 (σ' := (74, [some (.ref 27), none, some (.int v2), some (.int (v3 + 1)), some (.int r17)], [], x22)) rfl ?_
                      refine am_Rr.weak (ls0 := [some (.ref 27), none, some (.int v2), some (.int (v3 + 1)), none]) (by simp [am_le]) ?_
                      exact ih _ _ _ hF hk
                    · rw [if_neg h24] at hF
                      refine am_Rr.go 4 (σ' := (127, [some (.ref 27), none, some (.int v2), some (.int v3), some (.int r17)], [.int 1, .int r17, .ref 39], x22)) rfl ?_
                      by_cases c25 : 0 ≤ r17.toInt ∧ r17.toInt < 36
                      · rw [if_pos c25] at hF
                        refine am_Rr.chk (σ' := (128, [some (.ref 27), none, some (.int v2), some (.int v3), some (.int r17)], [], (am_sA x22 39 (upd (x22.2.2.1 39) r17.toNatClampNeg 1)))) rfl (by exact vp_in_iff.mpr c25) ?_
                        refine am_Rr.go 2 (σ' := (74, [some (.ref 27), none, some (.int v2), some (.int (v3 + 1)), some (.int r17)], [], (am_sA x22 39 (upd (x22.2.2.1 39) r17.toNatClampNeg 1)))) rfl ?_
                        refine am_Rr.weak (ls0 := [some (.ref 27), none, some (.int v2), some (.int (v3 + 1)), none]) (by simp [am_le]) ?_
                        exact ih _ _ _ hF hk
                      · rw [if_neg c25] at hF
                        cases hF
      · rw [if_neg c11] at hF
        cases hF
noncomputable def L_X8_passes_66 : Nat → Int32 → am_X → Option (Int32 × am_X)
  | 0, _, _ => none
  | n + 1, v2, x => (if (36 : Int32) ≤ v2 then some (v2, x) else (match L_X8_passes_74 1000 v2 (0 : Int32) x with | none => none | some (v27, v28, x26) => L_X8_passes_66 n (v27 + 1) x26))
theorem L_X8_passes_66_ok (d : Nat) (post : Option Value → am_X → Prop) (w2 : Int32) (y : am_X) : ∀ (n : Nat) (v2 : Int32) (x : am_X), L_X8_passes_66 n v2 x = some (w2, y) → am_Rr (d + 3) kX8_passes (140, [some (.ref 27), none, some (.int w2), none, none], [], y) post → am_Rr (d + 3) kX8_passes (66, [some (.ref 27), none, some (.int v2), none, none], [], x) post := by
  intro n
  induction n with
  | zero =>
    intro v2 x hF
    cases hF
  | succ n ih =>
    intro v2 x hF hk
    rw [L_X8_passes_66] at hF
    refine am_Rr.go 3 (σ' := (if (36 : Int32) ≤ v2 then 140 else 72, [some (.ref 27), none, some (.int v2), none, none], [], x)) rfl ?_
    refine am_Rr.ite (fun h9 => ?_) (fun h9 => ?_)
    · rw [if_pos h9] at hF
      cases hF
      exact hk
    · rw [if_neg h9] at hF
      refine am_Rr.go 2 (σ' := (74, [some (.ref 27), none, some (.int v2), some (.int 0), none], [], x)) rfl ?_
      cases g29 : L_X8_passes_74 1000 v2 (0 : Int32) x with
      | none => rw [g29] at hF; cases hF
      | some q_ =>
        obtain ⟨v27, v28, x26⟩ := q_
        rw [g29] at hF
        dsimp only at hF
        refine L_X8_passes_74_ok d _ v27 v28 x26 _ _ _ _ g29 ?_
        refine am_Rr.go 2 (σ' := (66, [some (.ref 27), none, some (.int (v27 + 1)), some (.int v28), none], [], x26)) rfl ?_
        refine am_Rr.weak (ls0 := [some (.ref 27), none, some (.int (v27 + 1)), none, none]) (by simp [am_le]) ?_
        exact ih _ _ hF hk
noncomputable def G_X8_passes (a : Int32) (x : am_X) : Option (Unit × am_X) := (if a = (-9) then (if ¬ ((x.2.2.1 29) 1) = 0 then (if (((x.1 883) + 1) - ((x.1 883) + 1) / ((x.2.2.1 29) 1) * ((x.2.2.1 29) 1)) = 0 then (match L_X8_passes_40 1000 (0 : Int32) (am_uI x 883 ((x.1 883) + 1)) with | none => none | some (v7, x6) => (match L_X8_passes_66 1000 (0 : Int32) x6 with | none => none | some (v31, x30) => some ((), x30))) else some ((), (am_uI x 883 ((x.1 883) + 1)))) else none) else (if 0 ≤ a.toInt ∧ a.toInt < 36 then (if ¬ ((x.2.2.1 29) 1) = 0 then (if (((x.1 883) + 1) - ((x.1 883) + 1) / ((x.2.2.1 29) 1) * ((x.2.2.1 29) 1)) = 0 then (match L_X8_passes_40 1000 (0 : Int32) (am_uI (am_sA x 39 (upd (x.2.2.1 39) a.toNatClampNeg 0)) 883 ((x.1 883) + 1)) with | none => none | some (v37, x36) => (match L_X8_passes_66 1000 (0 : Int32) x36 with | none => none | some (v40, x39) => some ((), x39))) else some ((), (am_uI (am_sA x 39 (upd (x.2.2.1 39) a.toNatClampNeg 0)) 883 ((x.1 883) + 1)))) else none) else none))
theorem A_X8_passes (d : Nat) {a : Int32} {x : am_X} {res : Unit × am_X} (hF : G_X8_passes a x = some res) : am_T (d + 4) mX8_passes [.ref 27, .int a] x (fun ro y => ro = none ∧ res.2 = y) := by
  refine am_T.of rfl ?_
  show am_Rr (d + 3) kX8_passes (0, [some (.ref 27), some (.int a), none, none, none], [], x) _
  unfold G_X8_passes at hF
  refine am_Rr.go 3 (σ' := (if a = (-9) then 13 else 6, [some (.ref 27), some (.int a), none, none, none], [], x)) rfl ?_
  refine am_Rr.ite (fun h1 => ?_) (fun h1 => ?_)
  · rw [if_pos h1] at hF
    refine am_Rr.go 11 (σ' := (32, [some (.ref 27), some (.int a), none, none, none], [.int 1, .ref 29, .int ((x.1 883) + 1)], (am_uI x 883 ((x.1 883) + 1)))) rfl ?_
    refine am_Rr.chk (σ' := (33, [some (.ref 27), some (.int a), none, none, none], [.int ((x.2.2.1 29) 1), .int ((x.1 883) + 1)], (am_uI x 883 ((x.1 883) + 1)))) rfl (by unfold vp_in; decide) ?_
    by_cases c2 : ¬ ((x.2.2.1 29) 1) = 0
    · rw [if_pos c2] at hF
      refine am_Rr.chk (σ' := (34, [some (.ref 27), some (.int a), none, none, none], [.int (((x.1 883) + 1) - ((x.1 883) + 1) / ((x.2.2.1 29) 1) * ((x.2.2.1 29) 1))], (am_uI x 883 ((x.1 883) + 1)))) rfl (by exact c2) ?_
      refine am_Rr.go 1 (σ' := (if (((x.1 883) + 1) - ((x.1 883) + 1) / ((x.2.2.1 29) 1) * ((x.2.2.1 29) 1)) = 0 then 38 else 37, [some (.ref 27), some (.int a), none, none, none], [], (am_uI x 883 ((x.1 883) + 1)))) rfl ?_
      refine am_Rr.ite (fun h3 => ?_) (fun h3 => ?_)
      · rw [if_pos h3] at hF
        refine am_Rr.go 2 (σ' := (40, [some (.ref 27), some (.int a), some (.int 0), none, none], [], (am_uI x 883 ((x.1 883) + 1)))) rfl ?_
        refine am_Rr.weak (ls0 := [some (.ref 27), none, some (.int 0), none, none]) (by simp [am_le]) ?_
        cases g8 : L_X8_passes_40 1000 (0 : Int32) (am_uI x 883 ((x.1 883) + 1)) with
        | none => rw [g8] at hF; cases hF
        | some q_ =>
          obtain ⟨v7, x6⟩ := q_
          rw [g8] at hF
          dsimp only at hF
          refine L_X8_passes_40_ok d _ v7 x6 _ _ _ g8 ?_
          refine am_Rr.go 2 (σ' := (66, [some (.ref 27), none, some (.int 0), none, none], [], x6)) rfl ?_
          cases g32 : L_X8_passes_66 1000 (0 : Int32) x6 with
          | none => rw [g32] at hF; cases hF
          | some q_ =>
            obtain ⟨v31, x30⟩ := q_
            rw [g32] at hF
            dsimp only at hF
            refine L_X8_passes_66_ok d _ v31 x30 _ _ _ g32 ?_
            obtain rfl := Option.some.inj hF
            exact am_Rr.ret (v := none) (x := x30) rfl (by trivial) ⟨rfl, rfl⟩
      · rw [if_neg h3] at hF
        obtain rfl := Option.some.inj hF
        exact am_Rr.ret (v := none) (x := (am_uI x 883 ((x.1 883) + 1))) rfl (by trivial) ⟨rfl, rfl⟩
    · rw [if_neg c2] at hF
      cases hF
  · rw [if_neg h1] at hF
    refine am_Rr.go 4 (σ' := (12, [some (.ref 27), some (.int a), none, none, none], [.int 0, .int a, .ref 39], x)) rfl ?_
    by_cases c33 : 0 ≤ a.toInt ∧ a.toInt < 36
    · rw [if_pos c33] at hF
      refine am_Rr.chk (σ' := (13, [some (.ref 27), some (.int a), none, none, none], [], (am_sA x 39 (upd (x.2.2.1 39) a.toNatClampNeg 0)))) rfl (by exact vp_in_iff.mpr c33) ?_
      refine am_Rr.go 11 (σ' := (32, [some (.ref 27), some (.int a), none, none, none], [.int 1, .ref 29, .int ((x.1 883) + 1)], (am_uI (am_sA x 39 (upd (x.2.2.1 39) a.toNatClampNeg 0)) 883 ((x.1 883) + 1)))) rfl ?_
      refine am_Rr.chk (σ' := (33, [some (.ref 27), some (.int a), none, none, none], [.int ((x.2.2.1 29) 1), .int ((x.1 883) + 1)], (am_uI (am_sA x 39 (upd (x.2.2.1 39) a.toNatClampNeg 0)) 883 ((x.1 883) + 1)))) rfl (by unfold vp_in; decide) ?_
      by_cases c34 : ¬ ((x.2.2.1 29) 1) = 0
      · rw [if_pos c34] at hF
        refine am_Rr.chk (σ' := (34, [some (.ref 27), some (.int a), none, none, none], [.int (((x.1 883) + 1) - ((x.1 883) + 1) / ((x.2.2.1 29) 1) * ((x.2.2.1 29) 1))], (am_uI (am_sA x 39 (upd (x.2.2.1 39) a.toNatClampNeg 0)) 883 ((x.1 883) + 1)))) rfl (by exact c34) ?_
        refine am_Rr.go 1 (σ' := (if (((x.1 883) + 1) - ((x.1 883) + 1) / ((x.2.2.1 29) 1) * ((x.2.2.1 29) 1)) = 0 then 38 else 37, [some (.ref 27), some (.int a), none, none, none], [], (am_uI (am_sA x 39 (upd (x.2.2.1 39) a.toNatClampNeg 0)) 883 ((x.1 883) + 1)))) rfl ?_
        refine am_Rr.ite (fun h35 => ?_) (fun h35 => ?_)
        · rw [if_pos h35] at hF
          refine am_Rr.go 2 (σ' := (40, [some (.ref 27), some (.int a), some (.int 0), none, none], [], (am_uI (am_sA x 39 (upd (x.2.2.1 39) a.toNatClampNeg 0)) 883 ((x.1 883) + 1)))) rfl ?_
          refine am_Rr.weak (ls0 := [some (.ref 27), none, some (.int 0), none, none]) (by simp [am_le]) ?_
          cases g38 : L_X8_passes_40 1000 (0 : Int32) (am_uI (am_sA x 39 (upd (x.2.2.1 39) a.toNatClampNeg 0)) 883 ((x.1 883) + 1)) with
          | none => rw [g38] at hF; cases hF
          | some q_ =>
            obtain ⟨v37, x36⟩ := q_
            rw [g38] at hF
            dsimp only at hF
            refine L_X8_passes_40_ok d _ v37 x36 _ _ _ g38 ?_
            refine am_Rr.go 2 (σ' := (66, [some (.ref 27), none, some (.int 0), none, none], [], x36)) rfl ?_
            cases g41 : L_X8_passes_66 1000 (0 : Int32) x36 with
            | none => rw [g41] at hF; cases hF
            | some q_ =>
              obtain ⟨v40, x39⟩ := q_
              rw [g41] at hF
              dsimp only at hF
              refine L_X8_passes_66_ok d _ v40 x39 _ _ _ g41 ?_
              obtain rfl := Option.some.inj hF
              exact am_Rr.ret (v := none) (x := x39) rfl (by trivial) ⟨rfl, rfl⟩
        · rw [if_neg h35] at hF
          obtain rfl := Option.some.inj hF
          exact am_Rr.ret (v := none) (x := (am_uI (am_sA x 39 (upd (x.2.2.1 39) a.toNatClampNeg 0)) 883 ((x.1 883) + 1))) rfl (by trivial) ⟨rfl, rfl⟩
      · rw [if_neg c34] at hF
        cases hF
    · rw [if_neg c33] at hF
      cases hF
noncomputable def L_X8_waysOf_2 : Nat → Int32 → Int32 → am_X → Option (Int32 × Int32 × am_X)
  | 0, _, _, _ => none
  | n + 1, v1, v2, x => (if (36 : Int32) ≤ v2 then some (v1, v2, x) else (if v2 = ((x.2.2.1 29) 0) then (if 0 ≤ v2.toInt ∧ v2.toInt < 36 then L_X8_waysOf_2 n v1 (v2 + 1) (am_sB x 43 (vp_updL (x.2.2.2 43) v2.toNatClampNeg 1)) else none) else (if 0 ≤ v2.toInt ∧ v2.toInt < 36 then L_X8_waysOf_2 n v1 (v2 + 1) (am_sB x 43 (vp_updL (x.2.2.2 43) v2.toNatClampNeg 0)) else none)))
theorem L_X8_waysOf_2_ok (d : Nat) (post : Option Value → am_X → Prop) (w1 : Int32) (w2 : Int32) (y : am_X) : ∀ (n : Nat) (v1 : Int32) (v2 : Int32) (x : am_X), L_X8_waysOf_2 n v1 v2 x = some (w1, w2, y) → am_Rr (d + 3) kX8_waysOf (35, [some (.ref 27), some (.int w1), some (.int w2), none, none, none], [], y) post → am_Rr (d + 3) kX8_waysOf (2, [some (.ref 27), some (.int v1), some (.int v2), none, none, none], [], x) post := by
  intro n
  induction n with
  | zero =>
    intro v1 v2 x hF
    cases hF
  | succ n ih =>
    intro v1 v2 x hF hk
    rw [L_X8_waysOf_2] at hF
    refine am_Rr.go 3 (σ' := (if (36 : Int32) ≤ v2 then 35 else 8, [some (.ref 27), some (.int v1), some (.int v2), none, none, none], [], x)) rfl ?_
    refine am_Rr.ite (fun h1 => ?_) (fun h1 => ?_)
    · rw [if_pos h1] at hF
      cases hF
      exact hk
    · rw [if_neg h1] at hF
      refine am_Rr.go 7 (σ' := (19, [some (.ref 27), some (.int v1), some (.int v2), none, none, none], [.int 0, .ref 29, .int v2, .int v2, .ref 43], x)) rfl ?_
      refine am_Rr.chk (σ' := (20, [some (.ref 27), some (.int v1), some (.int v2), none, none, none], [.int ((x.2.2.1 29) 0), .int v2, .int v2, .ref 43], x)) rfl (by unfold vp_in; decide) ?_
      refine am_Rr.go 1 (σ' := (if v2 = ((x.2.2.1 29) 0) then 23 else 27, [some (.ref 27), some (.int v1), some (.int v2), none, none, none], [.int v2, .ref 43], x)) rfl ?_
      refine am_Rr.ite (fun h2 => ?_) (fun h2 => ?_)
      · rw [if_pos h2] at hF
        refine am_Rr.go 2 (σ' := (28, [some (.ref 27), some (.int v1), some (.int v2), none, none, none], [.long 1, .int v2, .ref 43], x)) rfl ?_
        by_cases c3 : 0 ≤ v2.toInt ∧ v2.toInt < 36
        · rw [if_pos c3] at hF
          refine am_Rr.chk (σ' := (29, [some (.ref 27), some (.int v1), some (.int v2), none, none, none], [], (am_sB x 43 (vp_updL (x.2.2.2 43) v2.toNatClampNeg 1)))) rfl (by exact vp_in_iff.mpr c3) ?_
          refine am_Rr.go 2 (σ' := (2, [some (.ref 27), some (.int v1), some (.int (v2 + 1)), none, none, none], [], (am_sB x 43 (vp_updL (x.2.2.2 43) v2.toNatClampNeg 1)))) rfl ?_
          exact ih _ _ _ hF hk
        · rw [if_neg c3] at hF
          cases hF
      · rw [if_neg h2] at hF
        refine am_Rr.go 1 (σ' := (28, [some (.ref 27), some (.int v1), some (.int v2), none, none, none], [.long 0, .int v2, .ref 43], x)) rfl ?_
        by_cases c4 : 0 ≤ v2.toInt ∧ v2.toInt < 36
        · rw [if_pos c4] at hF
          refine am_Rr.chk (σ' := (29, [some (.ref 27), some (.int v1), some (.int v2), none, none, none], [], (am_sB x 43 (vp_updL (x.2.2.2 43) v2.toNatClampNeg 0)))) rfl (by exact vp_in_iff.mpr c4) ?_
          refine am_Rr.go 2 (σ' := (2, [some (.ref 27), some (.int v1), some (.int (v2 + 1)), none, none, none], [], (am_sB x 43 (vp_updL (x.2.2.2 43) v2.toNatClampNeg 0)))) rfl ?_
          exact ih _ _ _ hF hk
        · rw [if_neg c4] at hF
          cases hF
noncomputable def L_X8_waysOf_44 : Nat → Int32 → Int32 → Int32 → am_X → Option (Int32 × Int32 × Int32 × am_X)
  | 0, _, _, _, _ => none
  | n + 1, v1, v2, v3, x => (if (36 : Int32) ≤ v3 then some (v1, v2, v3, x) else (if 0 ≤ v3.toInt ∧ v3.toInt < 36 then L_X8_waysOf_44 n v1 v2 (v3 + 1) (am_sB x 44 (vp_updL (x.2.2.2 44) v3.toNatClampNeg ((x.2.2.2 43) v3.toNatClampNeg))) else none))
theorem L_X8_waysOf_44_ok (d : Nat) (post : Option Value → am_X → Prop) (w1 : Int32) (w2 : Int32) (w3 : Int32) (y : am_X) : ∀ (n : Nat) (v1 : Int32) (v2 : Int32) (v3 : Int32) (x : am_X), L_X8_waysOf_44 n v1 v2 v3 x = some (w1, w2, w3, y) → am_Rr (d + 3) kX8_waysOf (68, [some (.ref 27), some (.int w1), some (.int w2), some (.int w3), none, none], [], y) post → am_Rr (d + 3) kX8_waysOf (44, [some (.ref 27), some (.int v1), some (.int v2), some (.int v3), none, none], [], x) post := by
  intro n
  induction n with
  | zero =>
    intro v1 v2 v3 x hF
    cases hF
  | succ n ih =>
    intro v1 v2 v3 x hF hk
    rw [L_X8_waysOf_44] at hF
    refine am_Rr.go 3 (σ' := (if (36 : Int32) ≤ v3 then 68 else 50, [some (.ref 27), some (.int v1), some (.int v2), some (.int v3), none, none], [], x)) rfl ?_
    refine am_Rr.ite (fun h10 => ?_) (fun h10 => ?_)
    · rw [if_pos h10] at hF
      cases hF
      exact hk
    · rw [if_neg h10] at hF
      refine am_Rr.go 6 (σ' := (60, [some (.ref 27), some (.int v1), some (.int v2), some (.int v3), none, none], [.int v3, .ref 43, .int v3, .ref 44], x)) rfl ?_
      by_cases c11 : 0 ≤ v3.toInt ∧ v3.toInt < 36
      · rw [if_pos c11] at hF
        refine am_Rr.chk (σ' := (61, [some (.ref 27), some (.int v1), some (.int v2), some (.int v3), none, none], [.long ((x.2.2.2 43) v3.toNatClampNeg), .int v3, .ref 44], x)) rfl (by exact vp_in_iff.mpr c11) ?_
        refine am_Rr.chk (σ' := (62, [some (.ref 27), some (.int v1), some (.int v2), some (.int v3), none, none], [], (am_sB x 44 (vp_updL (x.2.2.2 44) v3.toNatClampNeg ((x.2.2.2 43) v3.toNatClampNeg))))) rfl (by exact vp_in_iff.mpr c11) ?_
        refine am_Rr.go 2 (σ' := (44, [some (.ref 27), some (.int v1), some (.int v2), some (.int (v3 + 1)), none, none], [], (am_sB x 44 (vp_updL (x.2.2.2 44) v3.toNatClampNeg ((x.2.2.2 43) v3.toNatClampNeg))))) rfl ?_
        exact ih _ _ _ _ hF hk
      · rw [if_neg c11] at hF
        cases hF
noncomputable def L_X8_waysOf_79 : Nat → Int32 → Int32 → Int32 → Int32 → am_X → Option (Int32 × Int32 × Int32 × Int32 × am_X)
  | 0, _, _, _, _, _ => none
  | n + 1, v1, v2, v3, v4, x => (if (4 : Int32) ≤ v4 then some (v1, v2, v3, v4, x) else (match G_X8_kindOf v3 x with | none => none | some (r19, x20) => (if r19 = 5 then some (v1, v2, v3, v4, x20) else (match G_X8_beside v3 v4 x20 with | none => none | some (r23, x24) => (if r23 = (-9) then L_X8_waysOf_79 n v1 v2 v3 (v4 + 1) x24 else (match G_X8_canBe r23 x24 with | none => none | some (r27, x28) => (if r27 = 0 then L_X8_waysOf_79 n v1 v2 v3 (v4 + 1) x28 else (if 0 ≤ r23.toInt ∧ r23.toInt < 36 then (if 0 ≤ v3.toInt ∧ v3.toInt < 36 then L_X8_waysOf_79 n v1 v2 v3 (v4 + 1) (am_sB x28 44 (vp_updL (x28.2.2.2 44) r23.toNatClampNeg (((x28.2.2.2 44) r23.toNatClampNeg) + ((x28.2.2.2 43) v3.toNatClampNeg)))) else none) else none))))))))
theorem L_X8_waysOf_79_ok (d : Nat) (post : Option Value → am_X → Prop) (w1 : Int32) (w2 : Int32) (w3 : Int32) (w4 : Int32) (y : am_X) : ∀ (n : Nat) (v1 : Int32) (v2 : Int32) (v3 : Int32) (v4 : Int32) (x : am_X), L_X8_waysOf_79 n v1 v2 v3 v4 x = some (w1, w2, w3, w4, y) → am_Rr (d + 3) kX8_waysOf (140, [some (.ref 27), some (.int w1), some (.int w2), some (.int w3), some (.int w4), none], [], y) post → am_Rr (d + 3) kX8_waysOf (79, [some (.ref 27), some (.int v1), some (.int v2), some (.int v3), some (.int v4), none], [], x) post := by
  intro n
  induction n with
  | zero =>
    intro v1 v2 v3 v4 x hF
    cases hF
  | succ n ih =>
    intro v1 v2 v3 v4 x hF hk
    rw [L_X8_waysOf_79] at hF
    refine am_Rr.go 3 (σ' := (if (4 : Int32) ≤ v4 then 140 else 85, [some (.ref 27), some (.int v1), some (.int v2), some (.int v3), some (.int v4), none], [], x)) rfl ?_
    refine am_Rr.ite (fun h18 => ?_) (fun h18 => ?_)
    · rw [if_pos h18] at hF
      cases hF
      exact hk
    · rw [if_neg h18] at hF
      refine am_Rr.go 2 (σ' := (87, [some (.ref 27), some (.int v1), some (.int v2), some (.int v3), some (.int v4), none], [.int v3, .ref 27], x)) rfl ?_
      cases g21 : G_X8_kindOf v3 x with
      | none => rw [g21] at hF; cases hF
      | some q_ =>
        obtain ⟨r19, x20⟩ := q_
        rw [g21] at hF
        dsimp only at hF
        refine am_Rr.call (pc := 90) (ls := [some (.ref 27), some (.int v1), some (.int v2), some (.int v3), some (.int v4), none]) (st := []) rfl (A_X8_kindOf (d + 1) g21) ?_
        rintro _ _ ⟨rfl, rfl⟩
        show am_Rr _ _ (90, [some (.ref 27), some (.int v1), some (.int v2), some (.int v3), some (.int v4), none], [.int r19], x20) _
        refine am_Rr.go 2 (σ' := (if r19 = 5 then 140 else 94, [some (.ref 27), some (.int v1), some (.int v2), some (.int v3), some (.int v4), none], [], x20)) rfl ?_
        refine am_Rr.ite (fun h22 => ?_) (fun h22 => ?_)
        · rw [if_pos h22] at hF
          cases hF
          exact hk
        · rw [if_neg h22] at hF
          refine am_Rr.go 2 (σ' := (97, [some (.ref 27), some (.int v1), some (.int v2), some (.int v3), some (.int v4), none], [.int v4, .int v3], x20)) rfl ?_
          cases g25 : G_X8_beside v3 v4 x20 with
          | none => rw [g25] at hF; cases hF
          | some q_ =>
            obtain ⟨r23, x24⟩ := q_
            rw [g25] at hF
            dsimp only at hF
            refine am_Rr.call (pc := 100) (ls := [some (.ref 27), some (.int v1), some (.int v2), some (.int v3), some (.int v4), none]) (st := []) rfl (A_X8_beside (d + 1) g25) ?_
            rintro _ _ ⟨rfl, rfl⟩
            show am_Rr _ _ (100, [some (.ref 27), some (.int v1), some (.int v2), some (.int v3), some (.int v4), none], [.int r23], x24) _
            refine am_Rr.go 4 (σ' := (if r23 = (-9) then 134 else 109, [some (.ref 27), some (.int v1), some (.int v2), some (.int v3), some (.int v4), some (.int r23)], [], x24)) rfl ?_
            refine am_Rr.ite (fun h26 => ?_) (fun h26 => ?_)
            · rw [if_pos h26] at hF
              refine am_Rr.go 2 (σ' := (79, [some (.ref 27), some (.int v1), some (.int v2), some (.int v3), some (.int (v4 + 1)), some (.int r23)], [], x24)) rfl ?_
              refine am_Rr.weak (ls0 := [some (.ref 27), some (.int v1), some (.int v2), some (.int v3), some (.int (v4 + 1)), none]) (by simp [am_le]) ?_
              exact ih _ _ _ _ _ hF hk
            · rw [if_neg h26] at hF
              refine am_Rr.go 2 (σ' := (112, [some (.ref 27), some (.int v1), some (.int v2), some (.int v3), some (.int v4), some (.int r23)], [.int r23, .ref 27], x24)) rfl ?_
              cases g29 : G_X8_canBe r23 x24 with
              | none => rw [g29] at hF; cases hF
              | some q_ =>
                obtain ⟨r27, x28⟩ := q_
                rw [g29] at hF
                dsimp only at hF
                refine am_Rr.call (pc := 115) (ls := [some (.ref 27), some (.int v1), some (.int v2), some (.int v3), some (.int v4), some (.int r23)]) (st := []) rfl (A_X8_canBe d g29) ?_
                rintro _ _ ⟨rfl, rfl⟩
                show am_Rr _ _ (115, [some (.ref 27), some (.int v1), some (.int v2), some (.int v3), some (.int v4), some (.int r23)], [.int r27], x28) _
                refine am_Rr.go 1 (σ' := (if r27 = 0 then 134 else 118, [some (.ref 27), some (.int v1), some (.int v2), some (.int v3), some (.int v4), some (.int r23)], [], x28)) rfl ?_
                refine am_Rr.ite (fun h30 => ?_) (fun h30 => ?_)
                · rw [if_pos h30] at hF
                  refine am_Rr.go 2 (σ' := (79, [some (.ref 27), some (.int v1), some (.int v2), some (.int v3), some (.int (v4 + 1)), some (.int r23)], [], x28)) rfl ?_
                  refine am_Rr.weak (ls0 := [some (.ref 27), some (.int v1), some (.int v2), some (.int v3), some (.int (v4 + 1)), none]) (by simp [am_le]) ?_
                  exact ih _ _ _ _ _ hF hk
                · rw [if_neg h30] at hF
                  refine am_Rr.go 4 (σ' := (125, [some (.ref 27), some (.int v1), some (.int v2), some (.int v3), some (.int v4), some (.int r23)], [.int r23, .ref 44, .int r23, .ref 44], x28)) rfl ?_
                  by_cases c31 : 0 ≤ r23.toInt ∧ r23.toInt < 36
                  · rw [if_pos c31] at hF
                    refine am_Rr.chk (σ' := (126, [some (.ref 27), some (.int v1), some (.int v2), some (.int v3), some (.int v4), some (.int r23)], [.long ((x28.2.2.2 44) r23.toNatClampNeg), .int r23, .ref 44], x28)) rfl (by exact vp_in_iff.mpr c31) ?_
                    refine am_Rr.go 3 (σ' := (131, [some (.ref 27), some (.int v1), some (.int v2), some (.int v3), some (.int v4), some (.int r23)], [.int v3, .ref 43, .long ((x28.2.2.2 44) r23.toNatClampNeg), .int r23, .ref 44], x28)) rfl ?_
                    by_cases c32 : 0 ≤ v3.toInt ∧ v3.toInt < 36
                    · rw [if_pos c32] at hF
                      refine am_Rr.chk (σ' := (132, [some (.ref 27), some (.int v1), some (.int v2), some (.int v3), some (.int v4), some (.int r23)], [.long ((x28.2.2.2 43) v3.toNatClampNeg), .long ((x28.2.2.2 44) r23.toNatClampNeg), .int r23, .ref 44], x28)) rfl (by exact vp_in_iff.mpr c32) ?_
                      refine am_Rr.go 1 (σ' := (133, [some (.ref 27), some (.int v1), some (.int v2), some (.int v3), some (.int v4), some (.int r23)], [.long (((x28.2.2.2 44) r23.toNatClampNeg) + ((x28.2.2.2 43) v3.toNatClampNeg)), .int r23, .ref 44], x28)) rfl ?_
                      refine am_Rr.chk (σ' := (134, [some (.ref 27), some (.int v1), some (.int v2), some (.int v3), some (.int v4), some (.int r23)], [], (am_sB x28 44 (vp_updL (x28.2.2.2 44) r23.toNatClampNeg (((x28.2.2.2 44) r23.toNatClampNeg) + ((x28.2.2.2 43) v3.toNatClampNeg)))))) rfl (by exact vp_in_iff.mpr c31) ?_
                      refine am_Rr.go 2 (σ' := (79, [some (.ref 27), some (.int v1), some (.int v2), some (.int v3), some (.int (v4 + 1)), some (.int r23)], [], (am_sB x28 44 (vp_updL (x28.2.2.2 44) r23.toNatClampNeg (((x28.2.2.2 44) r23.toNatClampNeg) + ((x28.2.2.2 43) v3.toNatClampNeg)))))) rfl ?_
                      refine am_Rr.weak (ls0 := [some (.ref 27), some (.int v1), some (.int v2), some (.int v3), some (.int (v4 + 1)), none]) (by simp [am_le]) ?_
                      exact ih _ _ _ _ _ hF hk
                    · rw [if_neg c32] at hF
                      cases hF
                  · rw [if_neg c31] at hF
                    cases hF
noncomputable def L_X8_waysOf_70 : Nat → Int32 → Int32 → Int32 → am_X → Option (Int32 × Int32 × Int32 × am_X)
  | 0, _, _, _, _ => none
  | n + 1, v1, v2, v3, x => (if (36 : Int32) ≤ v3 then some (v1, v2, v3, x) else (match L_X8_waysOf_79 1000 v1 v2 v3 (0 : Int32) x with | none => none | some (v34, v35, v36, v37, x33) => L_X8_waysOf_70 n v34 v35 (v36 + 1) x33))
theorem L_X8_waysOf_70_ok (d : Nat) (post : Option Value → am_X → Prop) (w1 : Int32) (w2 : Int32) (w3 : Int32) (y : am_X) : ∀ (n : Nat) (v1 : Int32) (v2 : Int32) (v3 : Int32) (x : am_X), L_X8_waysOf_70 n v1 v2 v3 x = some (w1, w2, w3, y) → am_Rr (d + 3) kX8_waysOf (146, [some (.ref 27), some (.int w1), some (.int w2), some (.int w3), none, none], [], y) post → am_Rr (d + 3) kX8_waysOf (70, [some (.ref 27), some (.int v1), some (.int v2), some (.int v3), none, none], [], x) post := by
  intro n
  induction n with
  | zero =>
    intro v1 v2 v3 x hF
    cases hF
  | succ n ih =>
    intro v1 v2 v3 x hF hk
    rw [L_X8_waysOf_70] at hF
    refine am_Rr.go 3 (σ' := (if (36 : Int32) ≤ v3 then 146 else 76, [some (.ref 27), some (.int v1), some (.int v2), some (.int v3), none, none], [], x)) rfl ?_
    refine am_Rr.ite (fun h17 => ?_) (fun h17 => ?_)
    · rw [if_pos h17] at hF
      cases hF
      exact hk
    · rw [if_neg h17] at hF
      refine am_Rr.go 2 (σ' := (79, [some (.ref 27), some (.int v1), some (.int v2), some (.int v3), some (.int 0), none], [], x)) rfl ?_
      cases g38 : L_X8_waysOf_79 1000 v1 v2 v3 (0 : Int32) x with
      | none => rw [g38] at hF; cases hF
      | some q_ =>
        obtain ⟨v34, v35, v36, v37, x33⟩ := q_
        rw [g38] at hF
        dsimp only at hF
        refine L_X8_waysOf_79_ok d _ v34 v35 v36 v37 x33 _ _ _ _ _ _ g38 ?_
        refine am_Rr.go 2 (σ' := (70, [some (.ref 27), some (.int v34), some (.int v35), some (.int (v36 + 1)), some (.int v37), none], [], x33)) rfl ?_
        refine am_Rr.weak (ls0 := [some (.ref 27), some (.int v34), some (.int v35), some (.int (v36 + 1)), none, none]) (by simp [am_le]) ?_
        exact ih _ _ _ _ hF hk
noncomputable def L_X8_waysOf_148 : Nat → Int32 → Int32 → Int32 → am_X → Option (Int32 × Int32 × Int32 × am_X)
  | 0, _, _, _, _ => none
  | n + 1, v1, v2, v3, x => (if (36 : Int32) ≤ v3 then some (v1, v2, v3, x) else (if 0 ≤ v3.toInt ∧ v3.toInt < 36 then L_X8_waysOf_148 n v1 v2 (v3 + 1) (am_sB x 43 (vp_updL (x.2.2.2 43) v3.toNatClampNeg ((x.2.2.2 44) v3.toNatClampNeg))) else none))
theorem L_X8_waysOf_148_ok (d : Nat) (post : Option Value → am_X → Prop) (w1 : Int32) (w2 : Int32) (w3 : Int32) (y : am_X) : ∀ (n : Nat) (v1 : Int32) (v2 : Int32) (v3 : Int32) (x : am_X), L_X8_waysOf_148 n v1 v2 v3 x = some (w1, w2, w3, y) → am_Rr (d + 3) kX8_waysOf (172, [some (.ref 27), some (.int w1), some (.int w2), some (.int w3), none, none], [], y) post → am_Rr (d + 3) kX8_waysOf (148, [some (.ref 27), some (.int v1), some (.int v2), some (.int v3), none, none], [], x) post := by
  intro n
  induction n with
  | zero =>
    intro v1 v2 v3 x hF
    cases hF
  | succ n ih =>
    intro v1 v2 v3 x hF hk
    rw [L_X8_waysOf_148] at hF
    refine am_Rr.go 3 (σ' := (if (36 : Int32) ≤ v3 then 172 else 154, [some (.ref 27), some (.int v1), some (.int v2), some (.int v3), none, none], [], x)) rfl ?_
    refine am_Rr.ite (fun h44 => ?_) (fun h44 => ?_)
    · rw [if_pos h44] at hF
      cases hF
      exact hk
    · rw [if_neg h44] at hF
      refine am_Rr.go 6 (σ' := (164, [some (.ref 27), some (.int v1), some (.int v2), some (.int v3), none, none], [.int v3, .ref 44, .int v3, .ref 43], x)) rfl ?_
      by_cases c45 : 0 ≤ v3.toInt ∧ v3.toInt < 36
      · rw [if_pos c45] at hF
        refine am_Rr.chk (σ' := (165, [some (.ref 27), some (.int v1), some (.int v2), some (.int v3), none, none], [.long ((x.2.2.2 44) v3.toNatClampNeg), .int v3, .ref 43], x)) rfl (by exact vp_in_iff.mpr c45) ?_
        refine am_Rr.chk (σ' := (166, [some (.ref 27), some (.int v1), some (.int v2), some (.int v3), none, none], [], (am_sB x 43 (vp_updL (x.2.2.2 43) v3.toNatClampNeg ((x.2.2.2 44) v3.toNatClampNeg))))) rfl (by exact vp_in_iff.mpr c45) ?_
        refine am_Rr.go 2 (σ' := (148, [some (.ref 27), some (.int v1), some (.int v2), some (.int (v3 + 1)), none, none], [], (am_sB x 43 (vp_updL (x.2.2.2 43) v3.toNatClampNeg ((x.2.2.2 44) v3.toNatClampNeg))))) rfl ?_
        exact ih _ _ _ _ hF hk
      · rw [if_neg c45] at hF
        cases hF
noncomputable def L_X8_waysOf_37 : Nat → Int32 → Int32 → am_X → Option (Int32 × Int32 × am_X)
  | 0, _, _, _ => none
  | n + 1, v1, v2, x => (if v1 ≤ v2 then some (v1, v2, x) else (match L_X8_waysOf_44 1000 v1 v2 (0 : Int32) x with | none => none | some (v13, v14, v15, x12) => (match L_X8_waysOf_70 1000 v13 v14 (0 : Int32) x12 with | none => none | some (v40, v41, v42, x39) => (match L_X8_waysOf_148 1000 v40 v41 (0 : Int32) x39 with | none => none | some (v47, v48, v49, x46) => L_X8_waysOf_37 n v47 (v48 + 1) x46))))
theorem L_X8_waysOf_37_ok (d : Nat) (post : Option Value → am_X → Prop) (w1 : Int32) (w2 : Int32) (y : am_X) : ∀ (n : Nat) (v1 : Int32) (v2 : Int32) (x : am_X), L_X8_waysOf_37 n v1 v2 x = some (w1, w2, y) → am_Rr (d + 3) kX8_waysOf (178, [some (.ref 27), some (.int w1), some (.int w2), none, none, none], [], y) post → am_Rr (d + 3) kX8_waysOf (37, [some (.ref 27), some (.int v1), some (.int v2), none, none, none], [], x) post := by
  intro n
  induction n with
  | zero =>
    intro v1 v2 x hF
    cases hF
  | succ n ih =>
    intro v1 v2 x hF hk
    rw [L_X8_waysOf_37] at hF
    refine am_Rr.go 3 (σ' := (if v1 ≤ v2 then 178 else 42, [some (.ref 27), some (.int v1), some (.int v2), none, none, none], [], x)) rfl ?_
    refine am_Rr.ite (fun h9 => ?_) (fun h9 => ?_)
    · rw [if_pos h9] at hF
      cases hF
      exact hk
    · rw [if_neg h9] at hF
      refine am_Rr.go 2 (σ' := (44, [some (.ref 27), some (.int v1), some (.int v2), some (.int 0), none, none], [], x)) rfl ?_
      cases g16 : L_X8_waysOf_44 1000 v1 v2 (0 : Int32) x with
      | none => rw [g16] at hF; cases hF
      | some q_ =>
        obtain ⟨v13, v14, v15, x12⟩ := q_
        rw [g16] at hF
        dsimp only at hF
        refine L_X8_waysOf_44_ok d _ v13 v14 v15 x12 _ _ _ _ _ g16 ?_
        refine am_Rr.go 2 (σ' := (70, [some (.ref 27), some (.int v13), some (.int v14), some (.int 0), none, none], [], x12)) rfl ?_
        cases g43 : L_X8_waysOf_70 1000 v13 v14 (0 : Int32) x12 with
        | none => rw [g43] at hF; cases hF
        | some q_ =>
          obtain ⟨v40, v41, v42, x39⟩ := q_
          rw [g43] at hF
          dsimp only at hF
          refine L_X8_waysOf_70_ok d _ v40 v41 v42 x39 _ _ _ _ _ g43 ?_
          refine am_Rr.go 2 (σ' := (148, [some (.ref 27), some (.int v40), some (.int v41), some (.int 0), none, none], [], x39)) rfl ?_
          cases g50 : L_X8_waysOf_148 1000 v40 v41 (0 : Int32) x39 with
          | none => rw [g50] at hF; cases hF
          | some q_ =>
            obtain ⟨v47, v48, v49, x46⟩ := q_
            rw [g50] at hF
            dsimp only at hF
            refine L_X8_waysOf_148_ok d _ v47 v48 v49 x46 _ _ _ _ _ g50 ?_
            refine am_Rr.go 2 (σ' := (37, [some (.ref 27), some (.int v47), some (.int (v48 + 1)), some (.int v49), none, none], [], x46)) rfl ?_
            refine am_Rr.weak (ls0 := [some (.ref 27), some (.int v47), some (.int (v48 + 1)), none, none, none]) (by simp [am_le]) ?_
            exact ih _ _ _ hF hk
noncomputable def L_X8_waysOf_183 : Nat → Int64 → Int32 → am_X → Option (Int64 × Int32 × am_X)
  | 0, _, _, _ => none
  | n + 1, v2, v4, x => (if (36 : Int32) ≤ v4 then some (v2, v4, x) else (if 0 ≤ v4.toInt ∧ v4.toInt < 36 then L_X8_waysOf_183 n (v2 + ((x.2.2.2 43) v4.toNatClampNeg)) (v4 + 1) x else none))
theorem L_X8_waysOf_183_ok (d : Nat) (post : Option Value → am_X → Prop) (w2 : Int64) (w4 : Int32) (y : am_X) : ∀ (n : Nat) (v2 : Int64) (v4 : Int32) (x : am_X), L_X8_waysOf_183 n v2 v4 x = some (w2, w4, y) → am_Rr (d + 3) kX8_waysOf (206, [some (.ref 27), none, some (.long w2), none, some (.int w4), none], [], y) post → am_Rr (d + 3) kX8_waysOf (183, [some (.ref 27), none, some (.long v2), none, some (.int v4), none], [], x) post := by
  intro n
  induction n with
  | zero =>
    intro v2 v4 x hF
    cases hF
  | succ n ih =>
    intro v2 v4 x hF hk
    rw [L_X8_waysOf_183] at hF
    refine am_Rr.go 3 (σ' := (if (36 : Int32) ≤ v4 then 206 else 190, [some (.ref 27), none, some (.long v2), none, some (.int v4), none], [], x)) rfl ?_
    refine am_Rr.ite (fun h55 => ?_) (fun h55 => ?_)
    · rw [if_pos h55] at hF
      cases hF
      exact hk
    · rw [if_neg h55] at hF
      refine am_Rr.go 4 (σ' := (197, [some (.ref 27), none, some (.long v2), none, some (.int v4), none], [.int v4, .ref 43, .long v2], x)) rfl ?_
      by_cases c56 : 0 ≤ v4.toInt ∧ v4.toInt < 36
      · rw [if_pos c56] at hF
        refine am_Rr.chk (σ' := (198, [some (.ref 27), none, some (.long v2), none, some (.int v4), none], [.long ((x.2.2.2 43) v4.toNatClampNeg), .long v2], x)) rfl (by exact vp_in_iff.mpr c56) ?_
        refine am_Rr.go 4 (σ' := (183, [some (.ref 27), none, some (.long (v2 + ((x.2.2.2 43) v4.toNatClampNeg))), none, some (.int (v4 + 1)), none], [], x)) rfl ?_
        exact ih _ _ _ hF hk
      · rw [if_neg c56] at hF
        cases hF
noncomputable def G_X8_waysOf (a : Int32) (x : am_X) : Option (Int64 × am_X) := (match L_X8_waysOf_2 1000 a (0 : Int32) x with | none => none | some (v6, v7, x5) => (match L_X8_waysOf_37 1000 v6 (0 : Int32) x5 with | none => none | some (v52, v53, x51) => (match L_X8_waysOf_183 1000 (0 : Int64) (0 : Int32) x51 with | none => none | some (v58, v59, x57) => some (v58, x57))))
theorem A_X8_waysOf (d : Nat) {a : Int32} {x : am_X} {res : Int64 × am_X} (hF : G_X8_waysOf a x = some res) : am_T (d + 4) mX8_waysOf [.ref 27, .int a] x (fun ro y => ro = some (.long res.1) ∧ res.2 = y) := by
  refine am_T.of rfl ?_
  show am_Rr (d + 3) kX8_waysOf (0, [some (.ref 27), some (.int a), none, none, none, none], [], x) _
  unfold G_X8_waysOf at hF
  refine am_Rr.go 2 (σ' := (2, [some (.ref 27), some (.int a), some (.int 0), none, none, none], [], x)) rfl ?_
  cases g8 : L_X8_waysOf_2 1000 a (0 : Int32) x with
  | none => rw [g8] at hF; cases hF
  | some q_ =>
    obtain ⟨v6, v7, x5⟩ := q_
    rw [g8] at hF
    dsimp only at hF
    refine L_X8_waysOf_2_ok d _ v6 v7 x5 _ _ _ _ g8 ?_
    refine am_Rr.go 2 (σ' := (37, [some (.ref 27), some (.int v6), some (.int 0), none, none, none], [], x5)) rfl ?_
    cases g54 : L_X8_waysOf_37 1000 v6 (0 : Int32) x5 with
    | none => rw [g54] at hF; cases hF
    | some q_ =>
      obtain ⟨v52, v53, x51⟩ := q_
      rw [g54] at hF
      dsimp only at hF
      refine L_X8_waysOf_37_ok d _ v52 v53 x51 _ _ _ _ g54 ?_
      refine am_Rr.go 4 (σ' := (183, [some (.ref 27), some (.int v52), some (.long 0), none, some (.int 0), none], [], x51)) rfl ?_
      refine am_Rr.weak (ls0 := [some (.ref 27), none, some (.long 0), none, some (.int 0), none]) (by simp [am_le]) ?_
      cases g60 : L_X8_waysOf_183 1000 (0 : Int64) (0 : Int32) x51 with
      | none => rw [g60] at hF; cases hF
      | some q_ =>
        obtain ⟨v58, v59, x57⟩ := q_
        rw [g60] at hF
        dsimp only at hF
        refine L_X8_waysOf_183_ok d _ v58 v59 x57 _ _ _ _ g60 ?_
        refine am_Rr.go 1 (σ' := (207, [some (.ref 27), none, some (.long v58), none, some (.int v59), none], [.long v58], x57)) rfl ?_
        obtain rfl := Option.some.inj hF
        exact am_Rr.ret (v := some (.long v58)) (x := x57) rfl (by trivial) ⟨rfl, rfl⟩
