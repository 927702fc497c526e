noncomputable def L_X8_out_32 : Nat → Int32 → Int32 → Int32 → am_X → Option (Int32 × Int32 × Int32 × am_X)
  | 0, _, _, _, _ => none
  | n + 1, v1, v2, v3, x => (match G_X8_kindOf v3 x with | none => none | some (r6, x7) => (if r6 = 5 then (if 0 ≤ v3.toInt ∧ v3.toInt < 36 then (if ((x7.2.2.1 38) v3.toNatClampNeg) = v2 then some (v1, v2, v3, x7) else L_X8_out_32 n v1 v2 (v3 + 1) x7) else none) else L_X8_out_32 n v1 v2 (v3 + 1) x7))
theorem L_X8_out_32_ok (d : Nat) (post : Option Value → am_X → Prop) (w1 : Int32) (w2 : Int32) (w3 : Int32) (y : am_X) : ∀ (n : Nat) (v1 : Int32) (v2 : Int32) (v3 : Int32) (x : am_X), L_X8_out_32 n v1 v2 v3 x = some (w1, w2, w3, y) → am_Rr (d + 5) kX8_out (57, [some (.ref 27), some (.int w1), some (.int w2), some (.int w3)], [], y) post → am_Rr (d + 5) kX8_out (32, [some (.ref 27), some (.int v1), some (.int v2), some (.int v3)], [], x) post := by
  intro n
  induction n with
  | zero =>
    intro v1 v2 v3 x hF
    cases hF
  | succ n ih =>
    intro v1 v2 v3 x hF hk
    rw [L_X8_out_32] at hF
    refine am_Rr.go 2 (σ' := (34, [some (.ref 27), some (.int v1), some (.int v2), some (.int v3)], [.int v3, .ref 27], x)) rfl ?_
    cases g8 : G_X8_kindOf v3 x with
    | none => rw [g8] at hF; cases hF
    | some q_ =>
      obtain ⟨r6, x7⟩ := q_
      rw [g8] at hF
      dsimp only at hF
      refine am_Rr.call (pc := 37) (ls := [some (.ref 27), some (.int v1), some (.int v2), some (.int v3)]) (st := []) rfl (A_X8_kindOf (d + 3) g8) ?_
      rintro _ _ ⟨rfl, rfl⟩
      show am_Rr _ _ (37, [some (.ref 27), some (.int v1), some (.int v2), some (.int v3)], [.int r6], x7) _
      refine am_Rr.go 2 (σ' := (if r6 = 5 then 41 else 51, [some (.ref 27), some (.int v1), some (.int v2), some (.int v3)], [], x7)) rfl ?_
      refine am_Rr.ite (fun h9 => ?_) (fun h9 => ?_)
      · rw [if_pos h9] at hF
        refine am_Rr.go 3 (σ' := (46, [some (.ref 27), some (.int v1), some (.int v2), some (.int v3)], [.int v3, .ref 38], x7)) rfl ?_
        by_cases c10 : 0 ≤ v3.toInt ∧ v3.toInt < 36
        · rw [if_pos c10] at hF
          refine am_Rr.chk (σ' := (47, [some (.ref 27), some (.int v1), some (.int v2), some (.int v3)], [.int ((x7.2.2.1 38) v3.toNatClampNeg)], x7)) rfl (by exact vp_in_iff.mpr c10) ?_
          refine am_Rr.go 2 (σ' := (if ((x7.2.2.1 38) v3.toNatClampNeg) = v2 then 57 else 51, [some (.ref 27), some (.int v1), some (.int v2), some (.int v3)], [], x7)) rfl ?_
          refine am_Rr.ite (fun h11 => ?_) (fun h11 => ?_)
          · rw [if_pos h11] at hF
            cases hF
            exact hk
          · rw [if_neg h11] at hF
            refine am_Rr.go 2 (σ' := (32, [some (.ref 27), some (.int v1), some (.int v2), some (.int (v3 + 1))], [], x7)) rfl ?_
            exact ih _ _ _ _ hF hk
        · rw [if_neg c10] at hF
          cases hF
      · rw [if_neg h9] at hF
        refine am_Rr.go 2 (σ' := (32, [some (.ref 27), some (.int v1), some (.int v2), some (.int (v3 + 1))], [], x7)) rfl ?_
        exact ih _ _ _ _ hF hk
noncomputable def G_X8_out (a : Int32) (x : am_X) : Option (Int32 × am_X) := (if a = 0 then (match G_X8_minutesOut  x with | none => none | some (r2, x3) => (if r2 = 100000 then some ((-9 : Int32), x3) else (match L_X8_out_32 1000 a r2 (0 : Int32) x3 with | none => none | some (v13, v14, v15, x12) => (if v13 = 0 then some ((v14 * ((x12.2.2.1 29) 1)), x12) else some (v15, x12))))) else (if a = 1 then (match G_X8_minutesOut  x with | none => none | some (r19, x20) => (if r19 = 100000 then some ((-9 : Int32), x20) else (match L_X8_out_32 1000 a r19 (0 : Int32) x20 with | none => none | some (v24, v25, v26, x23) => (if v24 = 0 then some ((v25 * ((x23.2.2.1 29) 1)), x23) else some (v26, x23))))) else (match G_X8_no (-2 : Int32) x with | none => none | some (r29, x30) => some (r29, x30))))
theorem A_X8_out (d : Nat) {a : Int32} {x : am_X} {res : Int32 × am_X} (hF : G_X8_out a x = some res) : am_T (d + 6) mX8_out [.ref 27, .int a] x (fun ro y => ro = some (.int res.1) ∧ res.2 = y) := by
  refine am_T.of rfl ?_
  show am_Rr (d + 5) kX8_out (0, [some (.ref 27), some (.int a), none, none], [], x) _
  unfold G_X8_out at hF
  refine am_Rr.go 2 (σ' := (if a = 0 then 16 else 4, [some (.ref 27), some (.int a), none, none], [], x)) rfl ?_
  refine am_Rr.ite (fun h1 => ?_) (fun h1 => ?_)
  · rw [if_pos h1] at hF
    refine am_Rr.go 1 (σ' := (17, [some (.ref 27), some (.int a), none, none], [.ref 27], x)) rfl ?_
    cases g4 : G_X8_minutesOut  x with
    | none => rw [g4] at hF; cases hF
    | some q_ =>
      obtain ⟨r2, x3⟩ := q_
      rw [g4] at hF
      dsimp only at hF
      refine am_Rr.call (pc := 20) (ls := [some (.ref 27), some (.int a), none, none]) (st := []) rfl (A_X8_minutesOut d g4) ?_
      rintro _ _ ⟨rfl, rfl⟩
      show am_Rr _ _ (20, [some (.ref 27), some (.int a), none, none], [.int r2], x3) _
      refine am_Rr.go 4 (σ' := (if r2 = 100000 then 27 else 30, [some (.ref 27), some (.int a), some (.int r2), none], [], x3)) rfl ?_
      refine am_Rr.ite (fun h5 => ?_) (fun h5 => ?_)
      · rw [if_pos h5] at hF
        refine am_Rr.go 1 (σ' := (29, [some (.ref 27), some (.int a), some (.int r2), none], [.int (-9)], x3)) rfl ?_
        obtain rfl := Option.some.inj hF
        exact am_Rr.ret (v := some (.int (-9))) (x := x3) rfl (by trivial) ⟨rfl, rfl⟩
      · rw [if_neg h5] at hF
        refine am_Rr.go 2 (σ' := (32, [some (.ref 27), some (.int a), some (.int r2), some (.int 0)], [], x3)) rfl ?_
        cases g16 : L_X8_out_32 1000 a r2 (0 : Int32) x3 with
        | none => rw [g16] at hF; cases hF
        | some q_ =>
          obtain ⟨v13, v14, v15, x12⟩ := q_
          rw [g16] at hF
          dsimp only at hF
          refine L_X8_out_32_ok d _ v13 v14 v15 x12 _ _ _ _ _ g16 ?_
          refine am_Rr.go 2 (σ' := (if v13 = 0 then 61 else 72, [some (.ref 27), some (.int v13), some (.int v14), some (.int v15)], [], x12)) rfl ?_
          refine am_Rr.ite (fun h17 => ?_) (fun h17 => ?_)
          · rw [if_pos h17] at hF
            refine am_Rr.go 4 (σ' := (67, [some (.ref 27), some (.int v13), some (.int v14), some (.int v15)], [.int 1, .ref 29, .int v14], x12)) rfl ?_
            refine am_Rr.chk (σ' := (68, [some (.ref 27), some (.int v13), some (.int v14), some (.int v15)], [.int ((x12.2.2.1 29) 1), .int v14], x12)) rfl (by unfold vp_in; decide) ?_
            refine am_Rr.go 2 (σ' := (73, [some (.ref 27), some (.int v13), some (.int v14), some (.int v15)], [.int (v14 * ((x12.2.2.1 29) 1))], x12)) rfl ?_
            obtain rfl := Option.some.inj hF
            exact am_Rr.ret (v := some (.int (v14 * ((x12.2.2.1 29) 1)))) (x := x12) rfl (by trivial) ⟨rfl, rfl⟩
          · rw [if_neg h17] at hF
            refine am_Rr.go 1 (σ' := (73, [some (.ref 27), some (.int v13), some (.int v14), some (.int v15)], [.int v15], x12)) rfl ?_
            obtain rfl := Option.some.inj hF
            exact am_Rr.ret (v := some (.int v15)) (x := x12) rfl (by trivial) ⟨rfl, rfl⟩
  · rw [if_neg h1] at hF
    refine am_Rr.go 3 (σ' := (if a = 1 then 16 else 9, [some (.ref 27), some (.int a), none, none], [], x)) rfl ?_
    refine am_Rr.ite (fun h18 => ?_) (fun h18 => ?_)
    · rw [if_pos h18] at hF
      refine am_Rr.go 1 (σ' := (17, [some (.ref 27), some (.int a), none, none], [.ref 27], x)) rfl ?_
      cases g21 : G_X8_minutesOut  x with
      | none => rw [g21] at hF; cases hF
      | some q_ =>
        obtain ⟨r19, x20⟩ := q_
        rw [g21] at hF
        dsimp only at hF
        refine am_Rr.call (pc := 20) (ls := [some (.ref 27), some (.int a), none, none]) (st := []) rfl (A_X8_minutesOut d g21) ?_
        rintro _ _ ⟨rfl, rfl⟩
        show am_Rr _ _ (20, [some (.ref 27), some (.int a), none, none], [.int r19], x20) _
        refine am_Rr.go 4 (σ' := (if r19 = 100000 then 27 else 30, [some (.ref 27), some (.int a), some (.int r19), none], [], x20)) rfl ?_
        refine am_Rr.ite (fun h22 => ?_) (fun h22 => ?_)
        · rw [if_pos h22] at hF
          refine am_Rr.go 1 (σ' := (29, [some (.ref 27), some (.int a), some (.int r19), none], [.int (-9)], x20)) rfl ?_
          obtain rfl := Option.some.inj hF
          exact am_Rr.ret (v := some (.int (-9))) (x := x20) rfl (by trivial) ⟨rfl, rfl⟩
        · rw [if_neg h22] at hF
          refine am_Rr.go 2 (σ' := (32, [some (.ref 27), some (.int a), some (.int r19), some (.int 0)], [], x20)) rfl ?_
          cases g27 : L_X8_out_32 1000 a r19 (0 : Int32) x20 with
          | none => rw [g27] at hF; cases hF
          | some q_ =>
            obtain ⟨v24, v25, v26, x23⟩ := q_
            rw [g27] at hF
            dsimp only at hF
            refine L_X8_out_32_ok d _ v24 v25 v26 x23 _ _ _ _ _ g27 ?_
            refine am_Rr.go 2 (σ' := (if v24 = 0 then 61 else 72, [some (.ref 27), some (.int v24), some (.int v25), some (.int v26)], [], x23)) rfl ?_
            refine am_Rr.ite (fun h28 => ?_) (fun h28 => ?_)
            · rw [if_pos h28] at hF
              refine am_Rr.go 4 (σ' := (67, [some (.ref 27), some (.int v24), some (.int v25), some (.int v26)], [.int 1, .ref 29, .int v25], x23)) rfl ?_
              refine am_Rr.chk (σ' := (68, [some (.ref 27), some (.int v24), some (.int v25), some (.int v26)], [.int ((x23.2.2.1 29) 1), .int v25], x23)) rfl (by unfold vp_in; decide) ?_
              refine am_Rr.go 2 (σ' := (73, [some (.ref 27), some (.int v24), some (.int v25), some (.int v26)], [.int (v25 * ((x23.2.2.1 29) 1))], x23)) rfl ?_
              obtain rfl := Option.some.inj hF
              exact am_Rr.ret (v := some (.int (v25 * ((x23.2.2.1 29) 1)))) (x := x23) rfl (by trivial) ⟨rfl, rfl⟩
            · rw [if_neg h28] at hF
              refine am_Rr.go 1 (σ' := (73, [some (.ref 27), some (.int v24), some (.int v25), some (.int v26)], [.int v26], x23)) rfl ?_
              obtain rfl := Option.some.inj hF
              exact am_Rr.ret (v := some (.int v26)) (x := x23) rfl (by trivial) ⟨rfl, rfl⟩
    · rw [if_neg h18] at hF
      refine am_Rr.go 2 (σ' := (12, [some (.ref 27), some (.int a), none, none], [.int (-2), .ref 27], x)) rfl ?_
      cases g31 : G_X8_no (-2 : Int32) x with
      | none => rw [g31] at hF; cases hF
      | some q_ =>
        obtain ⟨r29, x30⟩ := q_
        rw [g31] at hF
        dsimp only at hF
        refine am_Rr.call (pc := 15) (ls := [some (.ref 27), some (.int a), none, none]) (st := []) rfl (A_X8_no (d + 3) g31) ?_
        rintro _ _ ⟨rfl, rfl⟩
        show am_Rr _ _ (15, [some (.ref 27), some (.int a), none, none], [.int r29], x30) _
        obtain rfl := Option.some.inj hF
        exact am_Rr.ret (v := some (.int r29)) (x := x30) rfl (by trivial) ⟨rfl, rfl⟩
noncomputable def L_X8_shut_4 : Nat → Int32 → Int32 → am_X → Option (Int32 × Int32 × am_X)
  | 0, _, _, _ => none
  | n + 1, v1, v2, x => (if (36 : Int32) ≤ v2 then some (v1, v2, x) else (match G_X8_kindOf v2 x with | none => none | some (r2, x3) => (if r2 = 2 then (if (10 : Int32) ≤ v1 then L_X8_shut_4 n (v1 + 0) (v2 + 1) x3 else L_X8_shut_4 n (v1 + 1) (v2 + 1) x3) else L_X8_shut_4 n (v1 + 0) (v2 + 1) x3)))
theorem L_X8_shut_4_ok (d : Nat) (post : Option Value → am_X → Prop) (w1 : Int32) (w2 : Int32) (y : am_X) : ∀ (n : Nat) (v1 : Int32) (v2 : Int32) (x : am_X), L_X8_shut_4 n v1 v2 x = some (w1, w2, y) → am_Rr (d + 5) kX8_shut (39, [some (.ref 27), some (.int w1), some (.int w2), none, none, none, none, none, none], [], y) post → am_Rr (d + 5) kX8_shut (4, [some (.ref 27), some (.int v1), some (.int v2), none, none, none, none, none, none], [], x) post := by
  intro n
  induction n with
  | zero =>
    intro v1 v2 x hF
    cases hF
  | succ n ih =>
    intro v1 v2 x hF hk
    rw [L_X8_shut_4] at hF
    refine am_Rr.go 3 (σ' := (if (36 : Int32) ≤ v2 then 39 else 10, [some (.ref 27), some (.int v1), some (.int v2), none, none, none, none, none, none], [], x)) rfl ?_
    refine am_Rr.ite (fun h1 => ?_) (fun h1 => ?_)
    · rw [if_pos h1] at hF
      cases hF
      exact hk
    · rw [if_neg h1] at hF
      refine am_Rr.go 3 (σ' := (13, [some (.ref 27), some (.int v1), some (.int v2), none, none, none, none, none, none], [.int v2, .ref 27, .int v1], x)) rfl ?_
      cases g4 : G_X8_kindOf v2 x with
      | none => rw [g4] at hF; cases hF
      | some q_ =>
        obtain ⟨r2, x3⟩ := q_
        rw [g4] at hF
        dsimp only at hF
        refine am_Rr.call (pc := 16) (ls := [some (.ref 27), some (.int v1), some (.int v2), none, none, none, none, none, none]) (st := [.int v1]) rfl (A_X8_kindOf (d + 3) g4) ?_
        rintro _ _ ⟨rfl, rfl⟩
        show am_Rr _ _ (16, [some (.ref 27), some (.int v1), some (.int v2), none, none, none, none, none, none], [.int r2, .int v1], x3) _
        refine am_Rr.go 2 (σ' := (if r2 = 2 then 20 else 30, [some (.ref 27), some (.int v1), some (.int v2), none, none, none, none, none, none], [.int v1], x3)) rfl ?_
        refine am_Rr.ite (fun h5 => ?_) (fun h5 => ?_)
        · rw [if_pos h5] at hF
          refine am_Rr.go 3 (σ' := (if (10 : Int32) ≤ v1 then 30 else 26, [some (.ref 27), some (.int v1), some (.int v2), none, none, none, none, none, none], [.int v1], x3)) rfl ?_
          refine am_Rr.ite (fun h6 => ?_) (fun h6 => ?_)
          · rw [if_pos h6] at hF
            refine am_Rr.go 5 (σ' := (4, [some (.ref 27), some (.int (v1 + 0)), some (.int (v2 + 1)), none, none, none, none, none, none], [], x3)) rfl ?_
            exact ih _ _ _ hF hk
          · rw [if_neg h6] at hF
            refine am_Rr.go 6 (σ' := (4, [some (.ref 27), some (.int (v1 + 1)), some (.int (v2 + 1)), none, none, none, none, none, none], [], x3)) rfl ?_
            exact ih _ _ _ hF hk
        · rw [if_neg h5] at hF
          refine am_Rr.go 5 (σ' := (4, [some (.ref 27), some (.int (v1 + 0)), some (.int (v2 + 1)), none, none, none, none, none, none], [], x3)) rfl ?_
          exact ih _ _ _ hF hk
noncomputable def L_X8_shut_65 : Nat → Int32 → Int32 → Int32 → Int32 → Int32 → Int32 → Int32 → am_X → Option (Int32 × Int32 × Int32 × Int32 × Int32 × Int32 × Int32 × am_X)
  | 0, _, _, _, _, _, _, _, _ => none
  | n + 1, v1, v2, v3, v4, v5, v6, v7, x => (if (36 : Int32) ≤ v7 then some (v1, v2, v3, v4, v5, v6, v7, x) else (match G_X8_kindOf v7 x with | none => none | some (r13, x14) => (if r13 = 2 then (if v1 ≤ v6 then (if 0 ≤ v7.toInt ∧ v7.toInt < 36 then (if ((upd (x14.2.2.1 37) v7.toNatClampNeg 0) v7.toNatClampNeg) = 0 then L_X8_shut_65 n v1 v2 v3 v4 (v5 + 0) (v6 + 0) (v7 + 1) (am_sA x14 37 (upd (x14.2.2.1 37) v7.toNatClampNeg 0)) else L_X8_shut_65 n v1 v2 v3 v4 (v5 + 1) (v6 + 0) (v7 + 1) (am_sA x14 37 (upd (x14.2.2.1 37) v7.toNatClampNeg 0))) else none) else (if ((v4 >>> (v6 &&& 31)) &&& 1) = 1 then (if 0 ≤ v7.toInt ∧ v7.toInt < 36 then (if ((upd (x14.2.2.1 37) v7.toNatClampNeg 1) v7.toNatClampNeg) = 0 then L_X8_shut_65 n v1 v2 v3 v4 (v5 + 0) (v6 + 1) (v7 + 1) (am_sA x14 37 (upd (x14.2.2.1 37) v7.toNatClampNeg 1)) else L_X8_shut_65 n v1 v2 v3 v4 (v5 + 1) (v6 + 1) (v7 + 1) (am_sA x14 37 (upd (x14.2.2.1 37) v7.toNatClampNeg 1))) else none) else (if 0 ≤ v7.toInt ∧ v7.toInt < 36 then (if ((upd (x14.2.2.1 37) v7.toNatClampNeg 0) v7.toNatClampNeg) = 0 then L_X8_shut_65 n v1 v2 v3 v4 (v5 + 0) (v6 + 1) (v7 + 1) (am_sA x14 37 (upd (x14.2.2.1 37) v7.toNatClampNeg 0)) else L_X8_shut_65 n v1 v2 v3 v4 (v5 + 1) (v6 + 1) (v7 + 1) (am_sA x14 37 (upd (x14.2.2.1 37) v7.toNatClampNeg 0))) else none))) else (if 0 ≤ v7.toInt ∧ v7.toInt < 36 then (if ((upd (x14.2.2.1 37) v7.toNatClampNeg 0) v7.toNatClampNeg) = 0 then L_X8_shut_65 n v1 v2 v3 v4 (v5 + 0) (v6 + 0) (v7 + 1) (am_sA x14 37 (upd (x14.2.2.1 37) v7.toNatClampNeg 0)) else L_X8_shut_65 n v1 v2 v3 v4 (v5 + 1) (v6 + 0) (v7 + 1) (am_sA x14 37 (upd (x14.2.2.1 37) v7.toNatClampNeg 0))) else none))))
theorem L_X8_shut_65_ok (d : Nat) (post : Option Value → am_X → Prop) (w1 : Int32) (w2 : Int32) (w3 : Int32) (w4 : Int32) (w5 : Int32) (w6 : Int32) (w7 : Int32) (y : am_X) : ∀ (n : Nat) (v1 : Int32) (v2 : Int32) (v3 : Int32) (v4 : Int32) (v5 : Int32) (v6 : Int32) (v7 : Int32) (x : am_X), L_X8_shut_65 n v1 v2 v3 v4 v5 v6 v7 x = some (w1, w2, w3, w4, w5, w6, w7, y) → am_Rr (d + 5) kX8_shut (164, [some (.ref 27), some (.int w1), some (.int w2), some (.int w3), some (.int w4), some (.int w5), some (.int w6), some (.int w7), none], [], y) post → am_Rr (d + 5) kX8_shut (65, [some (.ref 27), some (.int v1), some (.int v2), some (.int v3), some (.int v4), some (.int v5), some (.int v6), some (.int v7), none], [], x) post := by
  intro n
  induction n with
  | zero =>
    intro v1 v2 v3 v4 v5 v6 v7 x hF
    cases hF
  | succ n ih =>
    intro v1 v2 v3 v4 v5 v6 v7 x hF hk
    rw [L_X8_shut_65] at hF
    refine am_Rr.go 3 (σ' := (if (36 : Int32) ≤ v7 then 164 else 72, [some (.ref 27), some (.int v1), some (.int v2), some (.int v3), some (.int v4), some (.int v5), some (.int v6), some (.int v7), none], [], x)) rfl ?_
    refine am_Rr.ite (fun h12 => ?_) (fun h12 => ?_)
    · rw [if_pos h12] at hF
      cases hF
      exact hk
    · rw [if_neg h12] at hF
      refine am_Rr.go 2 (σ' := (75, [some (.ref 27), some (.int v1), some (.int v2), some (.int v3), some (.int v4), some (.int v5), some (.int v6), some (.int v7), none], [.int v7, .ref 27], x)) rfl ?_
      cases g15 : G_X8_kindOf v7 x with
      | none => rw [g15] at hF; cases hF
      | some q_ =>
        obtain ⟨r13, x14⟩ := q_
        rw [g15] at hF
        dsimp only at hF
        refine am_Rr.call (pc := 78) (ls := [some (.ref 27), some (.int v1), some (.int v2), some (.int v3), some (.int v4), some (.int v5), some (.int v6), some (.int v7), none]) (st := []) rfl (A_X8_kindOf (d + 3) g15) ?_
        rintro _ _ ⟨rfl, rfl⟩
        show am_Rr _ _ (78, [some (.ref 27), some (.int v1), some (.int v2), some (.int v3), some (.int v4), some (.int v5), some (.int v6), some (.int v7), none], [.int r13], x14) _
        refine am_Rr.go 2 (σ' := (if r13 = 2 then 82 else 92, [some (.ref 27), some (.int v1), some (.int v2), some (.int v3), some (.int v4), some (.int v5), some (.int v6), some (.int v7), none], [], x14)) rfl ?_
        refine am_Rr.ite (fun h16 => ?_) (fun h16 => ?_)
        · rw [if_pos h16] at hF
          refine am_Rr.go 3 (σ' := (if v1 ≤ v6 then 92 else 88, [some (.ref 27), some (.int v1), some (.int v2), some (.int v3), some (.int v4), some (.int v5), some (.int v6), some (.int v7), none], [], x14)) rfl ?_
          refine am_Rr.ite (fun h17 => ?_) (fun h17 => ?_)
          · rw [if_pos h17] at hF
            refine am_Rr.go 8 (σ' := (122, [some (.ref 27), some (.int v1), some (.int v2), some (.int v3), some (.int v4), some (.int v5), some (.int v6), some (.int v7), some (.int 0)], [.int 0, .int v7, .ref 37], x14)) rfl ?_
            by_cases c18 : 0 ≤ v7.toInt ∧ v7.toInt < 36
            · rw [if_pos c18] at hF
              refine am_Rr.chk (σ' := (123, [some (.ref 27), some (.int v1), some (.int v2), some (.int v3), some (.int v4), some (.int v5), some (.int v6), some (.int v7), some (.int 0)], [], (am_sA x14 37 (upd (x14.2.2.1 37) v7.toNatClampNeg 0)))) rfl (by exact vp_in_iff.mpr c18) ?_
              refine am_Rr.go 4 (σ' := (131, [some (.ref 27), some (.int v1), some (.int v2), some (.int v3), some (.int v4), some (.int v5), some (.int v6), some (.int v7), some (.int 0)], [.int v7, .ref 37, .int v5], (am_sA x14 37 (upd (x14.2.2.1 37) v7.toNatClampNeg 0)))) rfl ?_
              refine am_Rr.chk (σ' := (132, [some (.ref 27), some (.int v1), some (.int v2), some (.int v3), some (.int v4), some (.int v5), some (.int v6), some (.int v7), some (.int 0)], [.int ((upd (x14.2.2.1 37) v7.toNatClampNeg 0) v7.toNatClampNeg), .int v5], (am_sA x14 37 (upd (x14.2.2.1 37) v7.toNatClampNeg 0)))) rfl (by exact vp_in_iff.mpr c18) ?_
              refine am_Rr.go 1 (σ' := (if ((upd (x14.2.2.1 37) v7.toNatClampNeg 0) v7.toNatClampNeg) = 0 then 139 else 135, [some (.ref 27), some (.int v1), some (.int v2), some (.int v3), some (.int v4), some (.int v5), some (.int v6), some (.int v7), some (.int 0)], [.int v5], (am_sA x14 37 (upd (x14.2.2.1 37) v7.toNatClampNeg 0)))) rfl ?_
              refine am_Rr.ite (fun h19 => ?_) (fun h19 => ?_)
              · rw [if_pos h19] at hF
                refine am_Rr.go 11 (σ' := (65, [some (.ref 27), some (.int v1), some (.int v2), some (.int v3), some (.int v4), some (.int (v5 + 0)), some (.int (v6 + 0)), some (.int (v7 + 1)), some (.int 0)], [], (am_sA x14 37 (upd (x14.2.2.1 37) v7.toNatClampNeg 0)))) rfl ?_
                refine am_Rr.weak (ls0 := [some (.ref 27), some (.int v1), some (.int v2), some (.int v3), some (.int v4), some (.int (v5 + 0)), some (.int (v6 + 0)), some (.int (v7 + 1)), none]) (by simp [am_le]) ?_
                exact ih _ _ _ _ _ _ _ _ hF hk
              · rw [if_neg h19] at hF
                refine am_Rr.go 12 (σ' := (65, [some (.ref 27), some (.int v1), some (.int v2), some (.int v3), some (.int v4), some (.int (v5 + 1)), some (.int (v6 + 0)), some (.int (v7 + 1)), some (.int 0)], [], (am_sA x14 37 (upd (x14.2.2.1 37) v7.toNatClampNeg 0)))) rfl ?_
                refine am_Rr.weak (ls0 := [some (.ref 27), some (.int v1), some (.int v2), some (.int v3), some (.int v4), some (.int (v5 + 1)), some (.int (v6 + 0)), some (.int (v7 + 1)), none]) (by simp [am_le]) ?_
                exact ih _ _ _ _ _ _ _ _ hF hk
            · rw [if_neg c18] at hF
              cases hF
          · rw [if_neg h17] at hF
            refine am_Rr.go 15 (σ' := (if ((v4 >>> (v6 &&& 31)) &&& 1) = 1 then 117 else 121, [some (.ref 27), some (.int v1), some (.int v2), some (.int v3), some (.int v4), some (.int v5), some (.int v6), some (.int v7), some (.int 1)], [.int v7, .ref 37], x14)) rfl ?_
            refine am_Rr.ite (fun h20 => ?_) (fun h20 => ?_)
            · rw [if_pos h20] at hF
              refine am_Rr.go 2 (σ' := (122, [some (.ref 27), some (.int v1), some (.int v2), some (.int v3), some (.int v4), some (.int v5), some (.int v6), some (.int v7), some (.int 1)], [.int 1, .int v7, .ref 37], x14)) rfl ?_
              by_cases c21 : 0 ≤ v7.toInt ∧ v7.toInt < 36
              · rw [if_pos c21] at hF
                refine am_Rr.chk (σ' := (123, [some (.ref 27), some (.int v1), some (.int v2), some (.int v3), some (.int v4), some (.int v5), some (.int v6), some (.int v7), some (.int 1)], [], (am_sA x14 37 (upd (x14.2.2.1 37) v7.toNatClampNeg 1)))) rfl (by exact vp_in_iff.mpr c21) ?_
                refine am_Rr.go 4 (σ' := (131, [some (.ref 27), some (.int v1), some (.int v2), some (.int v3), some (.int v4), some (.int v5), some (.int v6), some (.int v7), some (.int 1)], [.int v7, .ref 37, .int v5], (am_sA x14 37 (upd (x14.2.2.1 37) v7.toNatClampNeg 1)))) rfl ?_
                refine am_Rr.chk (σ' := (132, [some (.ref 27), some (.int v1), some (.int v2), some (.int v3), some (.int v4), some (.int v5), some (.int v6), some (.int v7), some (.int 1)], [.int ((upd (x14.2.2.1 37) v7.toNatClampNeg 1) v7.toNatClampNeg), .int v5], (am_sA x14 37 (upd (x14.2.2.1 37) v7.toNatClampNeg 1)))) rfl (by exact vp_in_iff.mpr c21) ?_
                refine am_Rr.go 1 (σ' := (if ((upd (x14.2.2.1 37) v7.toNatClampNeg 1) v7.toNatClampNeg) = 0 then 139 else 135, [some (.ref 27), some (.int v1), some (.int v2), some (.int v3), some (.int v4), some (.int v5), some (.int v6), some (.int v7), some (.int 1)], [.int v5], (am_sA x14 37 (upd (x14.2.2.1 37) v7.toNatClampNeg 1)))) rfl ?_
                refine am_Rr.ite (fun h22 => ?_) (fun h22 => ?_)
                · rw [if_pos h22] at hF
                  refine am_Rr.go 12 (σ' := (65, [some (.ref 27), some (.int v1), some (.int v2), some (.int v3), some (.int v4), some (.int (v5 + 0)), some (.int (v6 + 1)), some (.int (v7 + 1)), some (.int 1)], [], (am_sA x14 37 (upd (x14.2.2.1 37) v7.toNatClampNeg 1)))) rfl ?_
                  refine am_Rr.weak (ls0 := [some (.ref 27), some (.int v1), some (.int v2), some (.int v3), some (.int v4), some (.int (v5 + 0)), some (.int (v6 + 1)), some (.int (v7 + 1)), none]) (by simp [am_le]) ?_
                  exact ih _ _ _ _ _ _ _ _ hF hk
                · rw [if_neg h22] at hF
                  refine am_Rr.go 13 (σ' := (65, [some (.ref 27), some (.int v1), some (.int v2), some (.int v3), some (.int v4), some (.int (v5 + 1)), some (.int (v6 + 1)), some (.int (v7 + 1)), some (.int 1)], [], (am_sA x14 37 (upd (x14.2.2.1 37) v7.toNatClampNeg 1)))) rfl ?_
                  refine am_Rr.weak (ls0 := [some (.ref 27), some (.int v1), some (.int v2), some (.int v3), some (.int v4), some (.int (v5 + 1)), some (.int (v6 + 1)), some (.int (v7 + 1)), none]) (by simp [am_le]) ?_
                  exact ih _ _ _ _ _ _ _ _ hF hk
              · rw [if_neg c21] at hF
                cases hF
            · rw [if_neg h20] at hF
              refine am_Rr.go 1 (σ' := (122, [some (.ref 27), some (.int v1), some (.int v2), some (.int v3), some (.int v4), some (.int v5), some (.int v6), some (.int v7), some (.int 1)], [.int 0, .int v7, .ref 37], x14)) rfl ?_
              by_cases c23 : 0 ≤ v7.toInt ∧ v7.toInt < 36
              · rw [if_pos c23] at hF
                refine am_Rr.chk (σ' := (123, [some (.ref 27), some (.int v1), some (.int v2), some (.int v3), some (.int v4), some (.int v5), some (.int v6), some (.int v7), some (.int 1)], [], (am_sA x14 37 (upd (x14.2.2.1 37) v7.toNatClampNeg 0)))) rfl (by exact vp_in_iff.mpr c23) ?_
                refine am_Rr.go 4 (σ' := (131, [some (.ref 27), some (.int v1), some (.int v2), some (.int v3), some (.int v4), some (.int v5), some (.int v6), some (.int v7), some (.int 1)], [.int v7, .ref 37, .int v5], (am_sA x14 37 (upd (x14.2.2.1 37) v7.toNatClampNeg 0)))) rfl ?_
                refine am_Rr.chk (σ' := (132, [some (.ref 27), some (.int v1), some (.int v2), some (.int v3), some (.int v4), some (.int v5), some (.int v6), some (.int v7), some (.int 1)], [.int ((upd (x14.2.2.1 37) v7.toNatClampNeg 0) v7.toNatClampNeg), .int v5], (am_sA x14 37 (upd (x14.2.2.1 37) v7.toNatClampNeg 0)))) rfl (by exact vp_in_iff.mpr c23) ?_
                refine am_Rr.go 1 (σ' := (if ((upd (x14.2.2.1 37) v7.toNatClampNeg 0) v7.toNatClampNeg) = 0 then 139 else 135, [some (.ref 27), some (.int v1), some (.int v2), some (.int v3), some (.int v4), some (.int v5), some (.int v6), some (.int v7), some (.int 1)], [.int v5], (am_sA x14 37 (upd (x14.2.2.1 37) v7.toNatClampNeg 0)))) rfl ?_
                refine am_Rr.ite (fun h24 => ?_) (fun h24 => ?_)
                · rw [if_pos h24] at hF
                  refine am_Rr.go 12 (σ' := (65, [some (.ref 27), some (.int v1), some (.int v2), some (.int v3), some (.int v4), some (.int (v5 + 0)), some (.int (v6 + 1)), some (.int (v7 + 1)), some (.int 1)], [], (am_sA x14 37 (upd (x14.2.2.1 37) v7.toNatClampNeg 0)))) rfl ?_
                  refine am_Rr.weak (ls0 := [some (.ref 27), some (.int v1), some (.int v2), some (.int v3), some (.int v4), some (.int (v5 + 0)), some (.int (v6 + 1)), some (.int (v7 + 1)), none]) (by simp [am_le]) ?_
                  exact ih _ _ _ _ _ _ _ _ hF hk
                · rw [if_neg h24] at hF
                  refine am_Rr.go 13 (σ' := (65, [some (.ref 27), some (.int v1), some (.int v2), some (.int v3), some (.int v4), some (.int (v5 + 1)), some (.int (v6 + 1)), some (.int (v7 + 1)), some (.int 1)], [], (am_sA x14 37 (upd (x14.2.2.1 37) v7.toNatClampNeg 0)))) rfl ?_
                  refine am_Rr.weak (ls0 := [some (.ref 27), some (.int v1), some (.int v2), some (.int v3), some (.int v4), some (.int (v5 + 1)), some (.int (v6 + 1)), some (.int (v7 + 1)), none]) (by simp [am_le]) ?_
                  exact ih _ _ _ _ _ _ _ _ hF hk
              · rw [if_neg c23] at hF
                cases hF
        · rw [if_neg h16] at hF
          refine am_Rr.go 8 (σ' := (122, [some (.ref 27), some (.int v1), some (.int v2), some (.int v3), some (.int v4), some (.int v5), some (.int v6), some (.int v7), some (.int 0)], [.int 0, .int v7, .ref 37], x14)) rfl ?_
          by_cases c25 : 0 ≤ v7.toInt ∧ v7.toInt < 36
          · rw [if_pos c25] at hF
            refine am_Rr.chk (σ' := (123, [some (.ref 27), some (.int v1), some (.int v2), some (.int v3), some (.int v4), some (.int v5), some (.int v6), some (.int v7), some (.int 0)], [], (am_sA x14 37 (upd (x14.2.2.1 37) v7.toNatClampNeg 0)))) rfl (by exact vp_in_iff.mpr c25) ?_
            refine am_Rr.go 4 (σ' := (131, [some (.ref 27), some (.int v1), some (.int v2), some (.int v3), some (.int v4), some (.int v5), some (.int v6), some (.int v7), some (.int 0)], [.int v7, .ref 37, .int v5], (am_sA x14 37 (upd (x14.2.2.1 37) v7.toNatClampNeg 0)))) rfl ?_
            refine am_Rr.chk (σ' := (132, [some (.ref 27), some (.int v1), some (.int v2), some (.int v3), some (.int v4), some (.int v5), some (.int v6), some (.int v7), some (.int 0)], [.int ((upd (x14.2.2.1 37) v7.toNatClampNeg 0) v7.toNatClampNeg), .int v5], (am_sA x14 37 (upd (x14.2.2.1 37) v7.toNatClampNeg 0)))) rfl (by exact vp_in_iff.mpr c25) ?_
            refine am_Rr.go 1 (σ' := (if ((upd (x14.2.2.1 37) v7.toNatClampNeg 0) v7.toNatClampNeg) = 0 then 139 else 135, [some (.ref 27), some (.int v1), some (.int v2), some (.int v3), some (.int v4), some (.int v5), some (.int v6), some (.int v7), some (.int 0)], [.int v5], (am_sA x14 37 (upd (x14.2.2.1 37) v7.toNatClampNeg 0)))) rfl ?_
            refine am_Rr.ite (fun h26 => ?_) (fun h26 => ?_)
            · rw [if_pos h26] at hF
              refine am_Rr.go 11 (σ' := (65, [some (.ref 27), some (.int v1), some (.int v2), some (.int v3), some (.int v4), some (.int (v5 + 0)), some (.int (v6 + 0)), some (.int (v7 + 1)), some (.int 0)], [], (am_sA x14 37 (upd (x14.2.2.1 37) v7.toNatClampNeg 0)))) rfl ?_
              refine am_Rr.weak (ls0 := [some (.ref 27), some (.int v1), some (.int v2), some (.int v3), some (.int v4), some (.int (v5 + 0)), some (.int (v6 + 0)), some (.int (v7 + 1)), none]) (by simp [am_le]) ?_
              exact ih _ _ _ _ _ _ _ _ hF hk
            · rw [if_neg h26] at hF
              refine am_Rr.go 12 (σ' := (65, [some (.ref 27), some (.int v1), some (.int v2), some (.int v3), some (.int v4), some (.int (v5 + 1)), some (.int (v6 + 0)), some (.int (v7 + 1)), some (.int 0)], [], (am_sA x14 37 (upd (x14.2.2.1 37) v7.toNatClampNeg 0)))) rfl ?_
              refine am_Rr.weak (ls0 := [some (.ref 27), some (.int v1), some (.int v2), some (.int v3), some (.int v4), some (.int (v5 + 1)), some (.int (v6 + 0)), some (.int (v7 + 1)), none]) (by simp [am_le]) ?_
              exact ih _ _ _ _ _ _ _ _ hF hk
          · rw [if_neg c25] at hF
            cases hF
noncomputable def L_X8_shut_48 : Nat → Int32 → Int32 → Int32 → Int32 → am_X → Option (Int32 × Int32 × Int32 × Int32 × am_X)
  | 0, _, _, _, _, _ => none
  | n + 1, v1, v2, v3, v4, x => (if ((1 : Int32) <<< (v1 &&& 31)) ≤ v4 then some (v1, v2, v3, v4, x) else (match L_X8_shut_65 1000 v1 v2 v3 v4 (0 : Int32) (0 : Int32) (0 : Int32) x with | none => none | some (v28, v29, v30, v31, v32, v33, v34, x27) => (if v30 ≤ v32 then L_X8_shut_48 n v28 v29 v30 (v31 + 1) x27 else (match G_X8_minutesOut  x27 with | none => none | some (r37, x38) => (if r37 = 100000 then L_X8_shut_48 n v28 v31 v32 (v31 + 1) x38 else L_X8_shut_48 n v28 v29 v30 (v31 + 1) x38)))))
theorem L_X8_shut_48_ok (d : Nat) (post : Option Value → am_X → Prop) (w1 : Int32) (w2 : Int32) (w3 : Int32) (w4 : Int32) (y : am_X) : ∀ (n : Nat) (v1 : Int32) (v2 : Int32) (v3 : Int32) (v4 : Int32) (x : am_X), L_X8_shut_48 n v1 v2 v3 v4 x = some (w1, w2, w3, w4, y) → am_Rr (d + 5) kX8_shut (191, [some (.ref 27), some (.int w1), some (.int w2), some (.int w3), some (.int w4), none, none, none, none], [], y) post → am_Rr (d + 5) kX8_shut (48, [some (.ref 27), some (.int v1), some (.int v2), some (.int v3), some (.int v4), none, none, none, none], [], x) post := by
  intro n
  induction n with
  | zero =>
    intro v1 v2 v3 v4 x hF
    cases hF
  | succ n ih =>
    intro v1 v2 v3 v4 x hF hk
    rw [L_X8_shut_48] at hF
    refine am_Rr.go 5 (σ' := (if ((1 : Int32) <<< (v1 &&& 31)) ≤ v4 then 191 else 56, [some (.ref 27), some (.int v1), some (.int v2), some (.int v3), some (.int v4), none, none, none, none], [], x)) rfl ?_
    refine am_Rr.ite (fun h11 => ?_) (fun h11 => ?_)
    · rw [if_pos h11] at hF
      cases hF
      exact hk
    · rw [if_neg h11] at hF
      refine am_Rr.go 6 (σ' := (65, [some (.ref 27), some (.int v1), some (.int v2), some (.int v3), some (.int v4), some (.int 0), some (.int 0), some (.int 0), none], [], x)) rfl ?_
      cases g35 : L_X8_shut_65 1000 v1 v2 v3 v4 (0 : Int32) (0 : Int32) (0 : Int32) x with
      | none => rw [g35] at hF; cases hF
      | some q_ =>
        obtain ⟨v28, v29, v30, v31, v32, v33, v34, x27⟩ := q_
        rw [g35] at hF
        dsimp only at hF
        refine L_X8_shut_65_ok d _ v28 v29 v30 v31 v32 v33 v34 x27 _ _ _ _ _ _ _ _ _ g35 ?_
        refine am_Rr.go 3 (σ' := (if v30 ≤ v32 then 185 else 170, [some (.ref 27), some (.int v28), some (.int v29), some (.int v30), some (.int v31), some (.int v32), some (.int v33), some (.int v34), none], [], x27)) rfl ?_
        refine am_Rr.ite (fun h36 => ?_) (fun h36 => ?_)
        · rw [if_pos h36] at hF
          refine am_Rr.go 2 (σ' := (48, [some (.ref 27), some (.int v28), some (.int v29), some (.int v30), some (.int (v31 + 1)), some (.int v32), some (.int v33), some (.int v34), none], [], x27)) rfl ?_
          refine am_Rr.weak (ls0 := [some (.ref 27), some (.int v28), some (.int v29), some (.int v30), some (.int (v31 + 1)), none, none, none, none]) (by simp [am_le]) ?_
          exact ih _ _ _ _ _ hF hk
        · rw [if_neg h36] at hF
          refine am_Rr.go 1 (σ' := (171, [some (.ref 27), some (.int v28), some (.int v29), some (.int v30), some (.int v31), some (.int v32), some (.int v33), some (.int v34), none], [.ref 27], x27)) rfl ?_
          cases g39 : G_X8_minutesOut  x27 with
          | none => rw [g39] at hF; cases hF
          | some q_ =>
            obtain ⟨r37, x38⟩ := q_
            rw [g39] at hF
            dsimp only at hF
            refine am_Rr.call (pc := 174) (ls := [some (.ref 27), some (.int v28), some (.int v29), some (.int v30), some (.int v31), some (.int v32), some (.int v33), some (.int v34), none]) (st := []) rfl (A_X8_minutesOut d g39) ?_
            rintro _ _ ⟨rfl, rfl⟩
            show am_Rr _ _ (174, [some (.ref 27), some (.int v28), some (.int v29), some (.int v30), some (.int v31), some (.int v32), some (.int v33), some (.int v34), none], [.int r37], x38) _
            refine am_Rr.go 2 (σ' := (if r37 = 100000 then 179 else 185, [some (.ref 27), some (.int v28), some (.int v29), some (.int v30), some (.int v31), some (.int v32), some (.int v33), some (.int v34), none], [], x38)) rfl ?_
            refine am_Rr.ite (fun h40 => ?_) (fun h40 => ?_)
            · rw [if_pos h40] at hF
              refine am_Rr.go 6 (σ' := (48, [some (.ref 27), some (.int v28), some (.int v31), some (.int v32), some (.int (v31 + 1)), some (.int v32), some (.int v33), some (.int v34), none], [], x38)) rfl ?_
              refine am_Rr.weak (ls0 := [some (.ref 27), some (.int v28), some (.int v31), some (.int v32), some (.int (v31 + 1)), none, none, none, none]) (by simp [am_le]) ?_
              exact ih _ _ _ _ _ hF hk
            · rw [if_neg h40] at hF
              refine am_Rr.go 2 (σ' := (48, [some (.ref 27), some (.int v28), some (.int v29), some (.int v30), some (.int (v31 + 1)), some (.int v32), some (.int v33), some (.int v34), none], [], x38)) rfl ?_
              refine am_Rr.weak (ls0 := [some (.ref 27), some (.int v28), some (.int v29), some (.int v30), some (.int (v31 + 1)), none, none, none, none]) (by simp [am_le]) ?_
              exact ih _ _ _ _ _ hF hk
noncomputable def G_X8_shut  (x : am_X) : Option (Int32 × am_X) := (match L_X8_shut_4 1000 (0 : Int32) (0 : Int32) x with | none => none | some (v8, v9, x7) => (match L_X8_shut_48 1100 v8 (-9 : Int32) (11 : Int32) (0 : Int32) x7 with | none => none | some (v42, v43, v44, v45, x41) => (match G_X8_holdNone  x41 with | none => none | some (_, x48) => some (v43, x48))))
theorem A_X8_shut (d : Nat)  {x : am_X} {res : Int32 × am_X} (hF : G_X8_shut  x = some res) : am_T (d + 6) mX8_shut [.ref 27] x (fun ro y => ro = some (.int res.1) ∧ res.2 = y) := by
  refine am_T.of rfl ?_
  show am_Rr (d + 5) kX8_shut (0, [some (.ref 27), none, none, none, none, none, none, none, none], [], x) _
  unfold G_X8_shut at hF
  refine am_Rr.go 4 (σ' := (4, [some (.ref 27), some (.int 0), some (.int 0), none, none, none, none, none, none], [], x)) rfl ?_
  cases g10 : L_X8_shut_4 1000 (0 : Int32) (0 : Int32) x with
  | none => rw [g10] at hF; cases hF
  | some q_ =>
    obtain ⟨v8, v9, x7⟩ := q_
    rw [g10] at hF
    dsimp only at hF
    refine L_X8_shut_4_ok d _ v8 v9 x7 _ _ _ _ g10 ?_
    refine am_Rr.go 6 (σ' := (48, [some (.ref 27), some (.int v8), some (.int (-9)), some (.int 11), some (.int 0), none, none, none, none], [], x7)) rfl ?_
    cases g46 : L_X8_shut_48 1100 v8 (-9 : Int32) (11 : Int32) (0 : Int32) x7 with
    | none => rw [g46] at hF; cases hF
    | some q_ =>
      obtain ⟨v42, v43, v44, v45, x41⟩ := q_
      rw [g46] at hF
      dsimp only at hF
      refine L_X8_shut_48_ok d _ v42 v43 v44 v45 x41 _ _ _ _ _ _ g46 ?_
      refine am_Rr.go 1 (σ' := (192, [some (.ref 27), some (.int v42), some (.int v43), some (.int v44), some (.int v45), none, none, none, none], [.ref 27], x41)) rfl ?_
      cases g49 : G_X8_holdNone  x41 with
      | none => rw [g49] at hF; cases hF
      | some q_ =>
        obtain ⟨u_, x48⟩ := q_
        rw [g49] at hF
        dsimp only at hF
        refine am_Rr.call (pc := 195) (ls := [some (.ref 27), some (.int v42), some (.int v43), some (.int v44), some (.int v45), none, none, none, none]) (st := []) rfl (A_X8_holdNone (d + 3) g49) ?_
        rintro _ _ ⟨rfl, rfl⟩
        show am_Rr _ _ (195, [some (.ref 27), some (.int v42), some (.int v43), some (.int v44), some (.int v45), none, none, none, none], [], x48) _
        refine am_Rr.go 1 (σ' := (196, [some (.ref 27), some (.int v42), some (.int v43), some (.int v44), some (.int v45), none, none, none, none], [.int v43], x48)) rfl ?_
        obtain rfl := Option.some.inj hF
        exact am_Rr.ret (v := some (.int v43)) (x := x48) rfl (by trivial) ⟨rfl, rfl⟩
noncomputable def L_X8_firstGap_8 : Nat → Int32 → Int32 → Int32 → am_X → Option (Int32 × Int32 × Int32 × am_X)
  | 0, _, _, _, _ => none
  | n + 1, v1, v2, v3, x => (if (36 : Int32) ≤ v3 then some (v1, v2, v3, x) else (match G_X8_kindOf v3 x with | none => none | some (r2, x3) => (if r2 = 2 then (if 0 ≤ v3.toInt ∧ v3.toInt < 36 then (match G_X8_minutesOut  (am_sA x3 37 (upd (x3.2.2.1 37) v3.toNatClampNeg 1)) with | none => none | some (r7, x8) => (if r7 ≤ v2 then L_X8_firstGap_8 n v1 (if v2 < r7 then r7 else v2) (v3 + 1) (am_sA x8 37 (upd (x8.2.2.1 37) v3.toNatClampNeg 0)) else L_X8_firstGap_8 n v3 (if v2 < r7 then r7 else v2) (v3 + 1) (am_sA x8 37 (upd (x8.2.2.1 37) v3.toNatClampNeg 0)))) else none) else L_X8_firstGap_8 n v1 v2 (v3 + 1) x3)))
theorem L_X8_firstGap_8_ok (d : Nat) (post : Option Value → am_X → Prop) (w1 : Int32) (w2 : Int32) (w3 : Int32) (y : am_X) : ∀ (n : Nat) (v1 : Int32) (v2 : Int32) (v3 : Int32) (x : am_X), L_X8_firstGap_8 n v1 v2 v3 x = some (w1, w2, w3, y) → am_Rr (d + 5) kX8_firstGap (68, [some (.ref 27), some (.int w1), some (.int w2), some (.int w3), none], [], y) post → am_Rr (d + 5) kX8_firstGap (8, [some (.ref 27), some (.int v1), some (.int v2), some (.int v3), none], [], x) post := by
  intro n
  induction n with
  | zero =>
    intro v1 v2 v3 x hF
    cases hF
  | succ n ih =>
    intro v1 v2 v3 x hF hk
    rw [L_X8_firstGap_8] at hF
    refine am_Rr.go 3 (σ' := (if (36 : Int32) ≤ v3 then 68 else 14, [some (.ref 27), some (.int v1), some (.int v2), some (.int v3), none], [], x)) rfl ?_
    refine am_Rr.ite (fun h1 => ?_) (fun h1 => ?_)
    · rw [if_pos h1] at hF
      cases hF
      exact hk
    · rw [if_neg h1] at hF
      refine am_Rr.go 2 (σ' := (16, [some (.ref 27), some (.int v1), some (.int v2), some (.int v3), none], [.int v3, .ref 27], x)) rfl ?_
      cases g4 : G_X8_kindOf v3 x with
      | none => rw [g4] at hF; cases hF
      | some q_ =>
        obtain ⟨r2, x3⟩ := q_
        rw [g4] at hF
        dsimp only at hF
        refine am_Rr.call (pc := 19) (ls := [some (.ref 27), some (.int v1), some (.int v2), some (.int v3), none]) (st := []) rfl (A_X8_kindOf (d + 3) g4) ?_
        rintro _ _ ⟨rfl, rfl⟩
        show am_Rr _ _ (19, [some (.ref 27), some (.int v1), some (.int v2), some (.int v3), none], [.int r2], x3) _
        refine am_Rr.go 2 (σ' := (if r2 = 2 then 23 else 62, [some (.ref 27), some (.int v1), some (.int v2), some (.int v3), none], [], x3)) rfl ?_
        refine am_Rr.ite (fun h5 => ?_) (fun h5 => ?_)
        · rw [if_pos h5] at hF
          refine am_Rr.go 4 (σ' := (29, [some (.ref 27), some (.int v1), some (.int v2), some (.int v3), none], [.int 1, .int v3, .ref 37], x3)) rfl ?_
          by_cases c6 : 0 ≤ v3.toInt ∧ v3.toInt < 36
          · rw [if_pos c6] at hF
            refine am_Rr.chk (σ' := (30, [some (.ref 27), some (.int v1), some (.int v2), some (.int v3), none], [], (am_sA x3 37 (upd (x3.2.2.1 37) v3.toNatClampNeg 1)))) rfl (by exact vp_in_iff.mpr c6) ?_
            refine am_Rr.go 1 (σ' := (31, [some (.ref 27), some (.int v1), some (.int v2), some (.int v3), none], [.ref 27], (am_sA x3 37 (upd (x3.2.2.1 37) v3.toNatClampNeg 1)))) rfl ?_
            cases g9 : G_X8_minutesOut  (am_sA x3 37 (upd (x3.2.2.1 37) v3.toNatClampNeg 1)) with
            | none => rw [g9] at hF; cases hF
            | some q_ =>
              obtain ⟨r7, x8⟩ := q_
              rw [g9] at hF
              dsimp only at hF
              refine am_Rr.call (pc := 34) (ls := [some (.ref 27), some (.int v1), some (.int v2), some (.int v3), none]) (st := []) rfl (A_X8_minutesOut d g9) ?_
              rintro _ _ ⟨rfl, rfl⟩
              show am_Rr _ _ (34, [some (.ref 27), some (.int v1), some (.int v2), some (.int v3), none], [.int r7], x8) _
              refine am_Rr.go 5 (σ' := (42, [some (.ref 27), some (.int v1), some (.int v2), some (.int v3), some (.int r7)], [.int 0, .int v3, .ref 37], x8)) rfl ?_
              refine am_Rr.chk (σ' := (43, [some (.ref 27), some (.int v1), some (.int v2), some (.int v3), some (.int r7)], [], (am_sA x8 37 (upd (x8.2.2.1 37) v3.toNatClampNeg 0)))) rfl (by exact vp_in_iff.mpr c6) ?_
              refine am_Rr.go 3 (σ' := (if r7 ≤ v2 then 53 else 49, [some (.ref 27), some (.int v1), some (.int v2), some (.int v3), some (.int r7)], [], (am_sA x8 37 (upd (x8.2.2.1 37) v3.toNatClampNeg 0)))) rfl ?_
              refine am_Rr.ite (fun h10 => ?_) (fun h10 => ?_)
              · rw [if_pos h10] at hF
                refine am_Rr.go 8 (σ' := (8, [some (.ref 27), some (.int v1), some (.int (if v2 < r7 then r7 else v2)), some (.int (v3 + 1)), some (.int r7)], [], (am_sA x8 37 (upd (x8.2.2.1 37) v3.toNatClampNeg 0)))) rfl ?_
                refine am_Rr.weak (ls0 := [some (.ref 27), some (.int v1), some (.int (if v2 < r7 then r7 else v2)), some (.int (v3 + 1)), none]) (by simp [am_le]) ?_
                exact ih _ _ _ _ hF hk
              · rw [if_neg h10] at hF
                refine am_Rr.go 9 (σ' := (8, [some (.ref 27), some (.int v3), some (.int (if v2 < r7 then r7 else v2)), some (.int (v3 + 1)), some (.int r7)], [], (am_sA x8 37 (upd (x8.2.2.1 37) v3.toNatClampNeg 0)))) rfl ?_
                refine am_Rr.weak (ls0 := [some (.ref 27), some (.int v3), some (.int (if v2 < r7 then r7 else v2)), some (.int (v3 + 1)), none]) (by simp [am_le]) ?_
                exact ih _ _ _ _ hF hk
          · rw [if_neg c6] at hF
            cases hF
        · rw [if_neg h5] at hF
          refine am_Rr.go 2 (σ' := (8, [some (.ref 27), some (.int v1), some (.int v2), some (.int (v3 + 1)), none], [], x3)) rfl ?_
          exact ih _ _ _ _ hF hk
noncomputable def G_X8_firstGap  (x : am_X) : Option (Int32 × am_X) := (match L_X8_firstGap_8 1000 (-9 : Int32) (-9 : Int32) (0 : Int32) x with | none => none | some (v12, v13, v14, x11) => some (v12, x11))
theorem A_X8_firstGap (d : Nat)  {x : am_X} {res : Int32 × am_X} (hF : G_X8_firstGap  x = some res) : am_T (d + 6) mX8_firstGap [.ref 27] x (fun ro y => ro = some (.int res.1) ∧ res.2 = y) := by
  refine am_T.of rfl ?_
  show am_Rr (d + 5) kX8_firstGap (0, [some (.ref 27), none, none, none, none], [], x) _
  unfold G_X8_firstGap at hF
  refine am_Rr.go 6 (σ' := (8, [some (.ref 27), some (.int (-9)), some (.int (-9)), some (.int 0), none], [], x)) rfl ?_
  cases g15 : L_X8_firstGap_8 1000 (-9 : Int32) (-9 : Int32) (0 : Int32) x with
  | none => rw [g15] at hF; cases hF
  | some q_ =>
    obtain ⟨v12, v13, v14, x11⟩ := q_
    rw [g15] at hF
    dsimp only at hF
    refine L_X8_firstGap_8_ok d _ v12 v13 v14 x11 _ _ _ _ _ g15 ?_
    refine am_Rr.go 1 (σ' := (69, [some (.ref 27), some (.int v12), some (.int v13), some (.int v14), none], [.int v12], x11)) rfl ?_
    obtain rfl := Option.some.inj hF
    exact am_Rr.ret (v := some (.int v12)) (x := x11) rfl (by trivial) ⟨rfl, rfl⟩
