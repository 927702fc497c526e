noncomputable def L_X8_begin_12 : Nat → Int32 → am_X → Option (Int32 × am_X)
  | 0, _, _ => none
  | n + 1, v2, x => (if ((x.2.2.1 29) 3) ≤ v2 then some (v2, x) else (if 0 ≤ (((10 : Int32) + ((2 : Int32) * v2)) + 1).toInt ∧ (((10 : Int32) + ((2 : Int32) * v2)) + 1).toInt < 56 then (if 0 ≤ v2.toInt ∧ v2.toInt < 3 then L_X8_begin_12 n (v2 + 1) (am_sA x 41 (upd (x.2.2.1 41) v2.toNatClampNeg ((x.2.2.1 29) (((10 : Int32) + ((2 : Int32) * v2)) + 1).toNatClampNeg))) else none) else none))
theorem L_X8_begin_12_ok (d : Nat) (post : Option Value → am_X → Prop) (w2 : Int32) (y : am_X) : ∀ (n : Nat) (v2 : Int32) (x : am_X), L_X8_begin_12 n v2 x = some (w2, y) → am_Rr (d + 5) kX8_begin (47, [some (.ref 27), none, some (.int w2)], [], y) post → am_Rr (d + 5) kX8_begin (12, [some (.ref 27), none, some (.int v2)], [], x) post := by
  intro n
  induction n with
  | zero =>
    intro v2 x hF
    cases hF
  | succ n ih =>
    intro v2 x hF hk
    rw [L_X8_begin_12] at hF
    refine am_Rr.go 4 (σ' := (18, [some (.ref 27), none, some (.int v2)], [.int 3, .ref 29, .int v2], x)) rfl ?_
    refine am_Rr.chk (σ' := (19, [some (.ref 27), none, some (.int v2)], [.int ((x.2.2.1 29) 3), .int v2], x)) rfl (by unfold vp_in; decide) ?_
    refine am_Rr.go 1 (σ' := (if ((x.2.2.1 29) 3) ≤ v2 then 47 else 22, [some (.ref 27), none, some (.int v2)], [], x)) rfl ?_
    refine am_Rr.ite (fun h4 => ?_) (fun h4 => ?_)
    · rw [if_pos h4] at hF
      cases hF
      exact hk
    · rw [if_neg h4] at hF
      refine am_Rr.go 12 (σ' := (39, [some (.ref 27), none, some (.int v2)], [.int (((10 : Int32) + ((2 : Int32) * v2)) + 1), .ref 29, .int v2, .ref 41], x)) rfl ?_
      by_cases c5 : 0 ≤ (((10 : Int32) + ((2 : Int32) * v2)) + 1).toInt ∧ (((10 : Int32) + ((2 : Int32) * v2)) + 1).toInt < 56
      · rw [if_pos c5] at hF
        refine am_Rr.chk (σ' := (40, [some (.ref 27), none, some (.int v2)], [.int ((x.2.2.1 29) (((10 : Int32) + ((2 : Int32) * v2)) + 1).toNatClampNeg), .int v2, .ref 41], x)) rfl (by exact vp_in_iff.mpr c5) ?_
        by_cases c6 : 0 ≤ v2.toInt ∧ v2.toInt < 3
        · rw [if_pos c6] at hF
          refine am_Rr.chk (σ' := (41, [some (.ref 27), none, some (.int v2)], [], (am_sA x 41 (upd (x.2.2.1 41) v2.toNatClampNeg ((x.2.2.1 29) (((10 : Int32) + ((2 : Int32) * v2)) + 1).toNatClampNeg))))) rfl (by exact vp_in_iff.mpr c6) ?_
          refine am_Rr.go 2 (σ' := (12, [some (.ref 27), none, some (.int (v2 + 1))], [], (am_sA x 41 (upd (x.2.2.1 41) v2.toNatClampNeg ((x.2.2.1 29) (((10 : Int32) + ((2 : Int32) * v2)) + 1).toNatClampNeg))))) rfl ?_
          exact ih _ _ hF hk
        · rw [if_neg c6] at hF
          cases hF
      · rw [if_neg c5] at hF
        cases hF
noncomputable def G_X8_begin (a : Int32) (x : am_X) : Option (Unit × am_X) := (match G_X8_mayBeAt a x with | none => none | some (_, x2) => (match L_X8_begin_12 1000 (0 : Int32) (am_uI x2 883 a) with | none => none | some (v8, x7) => some ((), x7)))
theorem A_X8_begin (d : Nat) {a : Int32} {x : am_X} {res : Unit × am_X} (hF : G_X8_begin a x = some res) : am_T (d + 6) mX8_begin [.ref 27, .int a] x (fun ro y => ro = none ∧ res.2 = y) := by
  refine am_T.of rfl ?_
  show am_Rr (d + 5) kX8_begin (0, [some (.ref 27), some (.int a), none], [], x) _
  unfold G_X8_begin at hF
  refine am_Rr.go 2 (σ' := (2, [some (.ref 27), some (.int a), none], [.int a, .ref 27], x)) rfl ?_
  cases g3 : G_X8_mayBeAt a x with
  | none => rw [g3] at hF; cases hF
  | some q_ =>
    obtain ⟨u_, x2⟩ := q_
    rw [g3] at hF
    dsimp only at hF
    refine am_Rr.call (pc := 5) (ls := [some (.ref 27), some (.int a), none]) (st := []) rfl (A_X8_mayBeAt d g3) ?_
    rintro _ _ ⟨rfl, rfl⟩
    show am_Rr _ _ (5, [some (.ref 27), some (.int a), none], [], x2) _
    refine am_Rr.go 5 (σ' := (12, [some (.ref 27), some (.int a), some (.int 0)], [], (am_uI x2 883 a))) rfl ?_
    refine am_Rr.weak (ls0 := [some (.ref 27), none, some (.int 0)]) (by simp [am_le]) ?_
    cases g9 : L_X8_begin_12 1000 (0 : Int32) (am_uI x2 883 a) with
    | none => rw [g9] at hF; cases hF
    | some q_ =>
      obtain ⟨v8, x7⟩ := q_
      rw [g9] at hF
      dsimp only at hF
      refine L_X8_begin_12_ok d _ v8 x7 _ _ _ g9 ?_
      obtain rfl := Option.some.inj hF
      exact am_Rr.ret (v := none) (x := x7) rfl (by trivial) ⟨rfl, rfl⟩
noncomputable def L_X8_oneMore_8 : Nat → Int32 → Int32 → Int32 → am_X → Option (Int32 × Int32 × Int32 × am_X)
  | 0, _, _, _, _ => none
  | n + 1, v1, v2, v3, x => (if (36 : Int32) ≤ v3 then some (v1, v2, v3, x) else (if 0 ≤ v3.toInt ∧ v3.toInt < 36 then (if v3 = ((x.2.2.1 29) 0) then (match G_X8_reached  (am_sA x 37 (upd (x.2.2.1 37) v3.toNatClampNeg 0)) with | none => none | some (r4, x5) => (if v2 ≤ r4 then L_X8_oneMore_8 n v1 (if r4 < v2 then r4 else v2) (v3 + 1) (am_sA x5 37 (upd (x5.2.2.1 37) v3.toNatClampNeg (vp_nar .boolean ((x.2.2.1 37) v3.toNatClampNeg)))) else L_X8_oneMore_8 n v3 (if r4 < v2 then r4 else v2) (v3 + 1) (am_sA x5 37 (upd (x5.2.2.1 37) v3.toNatClampNeg (vp_nar .boolean ((x.2.2.1 37) v3.toNatClampNeg)))))) else (match G_X8_reached  (am_sA x 37 (upd (x.2.2.1 37) v3.toNatClampNeg 1)) with | none => none | some (r8, x9) => (if v2 ≤ r8 then L_X8_oneMore_8 n v1 (if r8 < v2 then r8 else v2) (v3 + 1) (am_sA x9 37 (upd (x9.2.2.1 37) v3.toNatClampNeg (vp_nar .boolean ((x.2.2.1 37) v3.toNatClampNeg)))) else L_X8_oneMore_8 n v3 (if r8 < v2 then r8 else v2) (v3 + 1) (am_sA x9 37 (upd (x9.2.2.1 37) v3.toNatClampNeg (vp_nar .boolean ((x.2.2.1 37) v3.toNatClampNeg))))))) else none))
theorem L_X8_oneMore_8_ok (d : Nat) (post : Option Value → am_X → Prop) (w1 : Int32) (w2 : Int32) (w3 : Int32) (y : am_X) : ∀ (n : Nat) (v1 : Int32) (v2 : Int32) (v3 : Int32) (x : am_X), L_X8_oneMore_8 n v1 v2 v3 x = some (w1, w2, w3, y) → am_Rr (d + 5) kX8_oneMore (82, [some (.ref 27), some (.int w1), some (.int w2), some (.int w3), none, none], [], y) post → am_Rr (d + 5) kX8_oneMore (8, [some (.ref 27), some (.int v1), some (.int v2), some (.int v3), none, none], [], x) post := by
  intro n
  induction n with
  | zero =>
    intro v1 v2 v3 x hF
    cases hF
  | succ n ih =>
    intro v1 v2 v3 x hF hk
    rw [L_X8_oneMore_8] at hF
    refine am_Rr.go 3 (σ' := (if (36 : Int32) ≤ v3 then 82 else 14, [some (.ref 27), some (.int v1), some (.int v2), some (.int v3), none, none], [], x)) rfl ?_
    refine am_Rr.ite (fun h1 => ?_) (fun h1 => ?_)
    · rw [if_pos h1] at hF
      cases hF
      exact hk
    · rw [if_neg h1] at hF
      refine am_Rr.go 3 (σ' := (19, [some (.ref 27), some (.int v1), some (.int v2), some (.int v3), none, none], [.int v3, .ref 37], x)) rfl ?_
      by_cases c2 : 0 ≤ v3.toInt ∧ v3.toInt < 36
      · rw [if_pos c2] at hF
        refine am_Rr.chk (σ' := (20, [some (.ref 27), some (.int v1), some (.int v2), some (.int v3), none, none], [.int ((x.2.2.1 37) v3.toNatClampNeg)], x)) rfl (by exact vp_in_iff.mpr c2) ?_
        refine am_Rr.go 8 (σ' := (33, [some (.ref 27), some (.int v1), some (.int v2), some (.int v3), some (.int ((x.2.2.1 37) v3.toNatClampNeg)), none], [.int 0, .ref 29, .int v3, .int v3, .ref 37], x)) rfl ?_
        refine am_Rr.chk (σ' := (34, [some (.ref 27), some (.int v1), some (.int v2), some (.int v3), some (.int ((x.2.2.1 37) v3.toNatClampNeg)), none], [.int ((x.2.2.1 29) 0), .int v3, .int v3, .ref 37], x)) rfl (by unfold vp_in; decide) ?_
        refine am_Rr.go 1 (σ' := (if v3 = ((x.2.2.1 29) 0) then 41 else 37, [some (.ref 27), some (.int v1), some (.int v2), some (.int v3), some (.int ((x.2.2.1 37) v3.toNatClampNeg)), none], [.int v3, .ref 37], x)) rfl ?_
        refine am_Rr.ite (fun h3 => ?_) (fun h3 => ?_)
        · rw [if_pos h3] at hF
          refine am_Rr.go 1 (σ' := (42, [some (.ref 27), some (.int v1), some (.int v2), some (.int v3), some (.int ((x.2.2.1 37) v3.toNatClampNeg)), none], [.int 0, .int v3, .ref 37], x)) rfl ?_
          refine am_Rr.chk (σ' := (43, [some (.ref 27), some (.int v1), some (.int v2), some (.int v3), some (.int ((x.2.2.1 37) v3.toNatClampNeg)), none], [], (am_sA x 37 (upd (x.2.2.1 37) v3.toNatClampNeg 0)))) rfl (by exact vp_in_iff.mpr c2) ?_
          refine am_Rr.go 1 (σ' := (44, [some (.ref 27), some (.int v1), some (.int v2), some (.int v3), some (.int ((x.2.2.1 37) v3.toNatClampNeg)), none], [.ref 27], (am_sA x 37 (upd (x.2.2.1 37) v3.toNatClampNeg 0)))) rfl ?_
          cases g6 : G_X8_reached  (am_sA x 37 (upd (x.2.2.1 37) v3.toNatClampNeg 0)) with
          | none => rw [g6] at hF; cases hF
          | some q_ =>
            obtain ⟨r4, x5⟩ := q_
            rw [g6] at hF
            dsimp only at hF
            refine am_Rr.call (pc := 47) (ls := [some (.ref 27), some (.int v1), some (.int v2), some (.int v3), some (.int ((x.2.2.1 37) v3.toNatClampNeg)), none]) (st := []) rfl (A_X8_reached d g6) ?_
            rintro _ _ ⟨rfl, rfl⟩
            show am_Rr _ _ (47, [some (.ref 27), some (.int v1), some (.int v2), some (.int v3), some (.int ((x.2.2.1 37) v3.toNatClampNeg)), none], [.int r4], x5) _
            refine am_Rr.go 5 (σ' := (56, [some (.ref 27), some (.int v1), some (.int v2), some (.int v3), some (.int ((x.2.2.1 37) v3.toNatClampNeg)), some (.int r4)], [.int ((x.2.2.1 37) v3.toNatClampNeg), .int v3, .ref 37], x5)) rfl ?_
            refine am_Rr.chk (σ' := (57, [some (.ref 27), some (.int v1), some (.int v2), some (.int v3), some (.int ((x.2.2.1 37) v3.toNatClampNeg)), some (.int r4)], [], (am_sA x5 37 (upd (x5.2.2.1 37) v3.toNatClampNeg (vp_nar .boolean ((x.2.2.1 37) v3.toNatClampNeg)))))) rfl (by exact vp_in_iff.mpr c2) ?_
            refine am_Rr.go 3 (σ' := (if v2 ≤ r4 then 67 else 63, [some (.ref 27), some (.int v1), some (.int v2), some (.int v3), some (.int ((x.2.2.1 37) v3.toNatClampNeg)), some (.int r4)], [], (am_sA x5 37 (upd (x5.2.2.1 37) v3.toNatClampNeg (vp_nar .boolean ((x.2.2.1 37) v3.toNatClampNeg)))))) rfl ?_
            refine am_Rr.ite (fun h7 => ?_) (fun h7 => ?_)
            · rw [if_pos h7] at hF
              refine am_Rr.go 8 (σ' := (8, [some (.ref 27), some (.int v1), some (.int (if r4 < v2 then r4 else v2)), some (.int (v3 + 1)), some (.int ((x.2.2.1 37) v3.toNatClampNeg)), some (.int r4)], [], (am_sA x5 37 (upd (x5.2.2.1 37) v3.toNatClampNeg (vp_nar .boolean ((x.2.2.1 37) v3.toNatClampNeg)))))) rfl ?_
              refine am_Rr.weak (ls0 := [some (.ref 27), some (.int v1), some (.int (if r4 < v2 then r4 else v2)), some (.int (v3 + 1)), none, none]) (by simp [am_le]) ?_
              exact ih _ _ _ _ hF hk
            · rw [if_neg h7] at hF
              refine am_Rr.go 9 (σ' := (8, [some (.ref 27), some (.int v3), some (.int (if r4 < v2 then r4 else v2)), some (.int (v3 + 1)), some (.int ((x.2.2.1 37) v3.toNatClampNeg)), some (.int r4)], [], (am_sA x5 37 (upd (x5.2.2.1 37) v3.toNatClampNeg (vp_nar .boolean ((x.2.2.1 37) v3.toNatClampNeg)))))) rfl ?_
              refine am_Rr.weak (ls0 := [some (.ref 27), some (.int v3), some (.int (if r4 < v2 then r4 else v2)), some (.int (v3 + 1)), none, none]) (by simp [am_le]) ?_
              exact ih _ _ _ _ hF hk
        · rw [if_neg h3] at hF
          refine am_Rr.go 2 (σ' := (42, [some (.ref 27), some (.int v1), some (.int v2), some (.int v3), some (.int ((x.2.2.1 37) v3.toNatClampNeg)), none], [.int 1, .int v3, .ref 37], x)) rfl ?_
          refine am_Rr.chk (σ' := (43, [some (.ref 27), some (.int v1), some (.int v2), some (.int v3), some (.int ((x.2.2.1 37) v3.toNatClampNeg)), none], [], (am_sA x 37 (upd (x.2.2.1 37) v3.toNatClampNeg 1)))) rfl (by exact vp_in_iff.mpr c2) ?_
          refine am_Rr.go 1 (σ' := (44, [some (.ref 27), some (.int v1), some (.int v2), some (.int v3), some (.int ((x.2.2.1 37) v3.toNatClampNeg)), none], [.ref 27], (am_sA x 37 (upd (x.2.2.1 37) v3.toNatClampNeg 1)))) rfl ?_
          cases g10 : G_X8_reached  (am_sA x 37 (upd (x.2.2.1 37) v3.toNatClampNeg 1)) with
          | none => rw [g10] at hF; cases hF
          | some q_ =>
            obtain ⟨r8, x9⟩ := q_
            rw [g10] at hF
            dsimp only at hF
            refine am_Rr.call (pc := 47) (ls := [some (.ref 27), some (.int v1), some (.int v2), some (.int v3), some (.int ((x.2.2.1 37) v3.toNatClampNeg)), none]) (st := []) rfl (A_X8_reached d g10) ?_
            rintro _ _ ⟨rfl, rfl⟩
            show am_Rr _ _ (47, [some (.ref 27), some (.int v1), some (.int v2), some (.int v3), some (.int ((x.2.2.1 37) v3.toNatClampNeg)), none], [.int r8], x9) _
            refine am_Rr.go 5 (σ' := (56, [some (.ref 27), some (.int v1), some (.int v2), some (.int v3), some (.int ((x.2.2.1 37) v3.toNatClampNeg)), some (.int r8)], [.int ((x.2.2.1 37) v3.toNatClampNeg), .int v3, .ref 37], x9)) rfl ?_
            refine am_Rr.chk (σ' := (57, [some (.ref 27), some (.int v1), some (.int v2), some (.int v3), some (.int ((x.2.2.1 37) v3.toNatClampNeg)), some (.int r8)], [], (am_sA x9 37 (upd (x9.2.2.1 37) v3.toNatClampNeg (vp_nar .boolean ((x.2.2.1 37) v3.toNatClampNeg)))))) rfl (by exact vp_in_iff.mpr c2) ?_
            refine am_Rr.go 3 (σ' := (if v2 ≤ r8 then 67 else 63, [some (.ref 27), some (.int v1), some (.int v2), some (.int v3), some (.int ((x.2.2.1 37) v3.toNatClampNeg)), some (.int r8)], [], (am_sA x9 37 (upd (x9.2.2.1 37) v3.toNatClampNeg (vp_nar .boolean ((x.2.2.1 37) v3.toNatClampNeg)))))) rfl ?_
            refine am_Rr.ite (fun h11 => ?_) (fun h11 => ?_)
            · rw [if_pos h11] at hF
              refine am_Rr.go 8 (σ' := (8, [some (.ref 27), some (.int v1), some (.int (if r8 < v2 then r8 else v2)), some (.int (v3 + 1)), some (.int ((x.2.2.1 37) v3.toNatClampNeg)), some (.int r8)], [], (am_sA x9 37 (upd (x9.2.2.1 37) v3.toNatClampNeg (vp_nar .boolean ((x.2.2.1 37) v3.toNatClampNeg)))))) rfl ?_
              refine am_Rr.weak (ls0 := [some (.ref 27), some (.int v1), some (.int (if r8 < v2 then r8 else v2)), some (.int (v3 + 1)), none, none]) (by simp [am_le]) ?_
              exact ih _ _ _ _ hF hk
            · rw [if_neg h11] at hF
              refine am_Rr.go 9 (σ' := (8, [some (.ref 27), some (.int v3), some (.int (if r8 < v2 then r8 else v2)), some (.int (v3 + 1)), some (.int ((x.2.2.1 37) v3.toNatClampNeg)), some (.int r8)], [], (am_sA x9 37 (upd (x9.2.2.1 37) v3.toNatClampNeg (vp_nar .boolean ((x.2.2.1 37) v3.toNatClampNeg)))))) rfl ?_
              refine am_Rr.weak (ls0 := [some (.ref 27), some (.int v3), some (.int (if r8 < v2 then r8 else v2)), some (.int (v3 + 1)), none, none]) (by simp [am_le]) ?_
              exact ih _ _ _ _ hF hk
      · rw [if_neg c2] at hF
        cases hF
noncomputable def G_X8_oneMore  (x : am_X) : Option (Int32 × am_X) := (match L_X8_oneMore_8 1000 (-9 : Int32) (100000 : Int32) (0 : Int32) x with | none => none | some (v13, v14, v15, x12) => some (v13, x12))
theorem A_X8_oneMore (d : Nat)  {x : am_X} {res : Int32 × am_X} (hF : G_X8_oneMore  x = some res) : am_T (d + 6) mX8_oneMore [.ref 27] x (fun ro y => ro = some (.int res.1) ∧ res.2 = y) := by
  refine am_T.of rfl ?_
  show am_Rr (d + 5) kX8_oneMore (0, [some (.ref 27), none, none, none, none, none], [], x) _
  unfold G_X8_oneMore at hF
  refine am_Rr.go 6 (σ' := (8, [some (.ref 27), some (.int (-9)), some (.int 100000), some (.int 0), none, none], [], x)) rfl ?_
  cases g16 : L_X8_oneMore_8 1000 (-9 : Int32) (100000 : Int32) (0 : Int32) x with
  | none => rw [g16] at hF; cases hF
  | some q_ =>
    obtain ⟨v13, v14, v15, x12⟩ := q_
    rw [g16] at hF
    dsimp only at hF
    refine L_X8_oneMore_8_ok d _ v13 v14 v15 x12 _ _ _ _ _ g16 ?_
    refine am_Rr.go 1 (σ' := (83, [some (.ref 27), some (.int v13), some (.int v14), some (.int v15), none, none], [.int v13], x12)) rfl ?_
    obtain rfl := Option.some.inj hF
    exact am_Rr.ret (v := some (.int v13)) (x := x12) rfl (by trivial) ⟨rfl, rfl⟩
noncomputable def L_X8_finds_33 : Nat → Int32 → Int32 → Int32 → am_X → Option (Int32 × Int32 × Int32 × am_X)
  | 0, _, _, _, _ => none
  | n + 1, v1, v2, v3, x => (if (x.1 885) ≤ v3 then some (v1, v2, v3, x) else (if v2 = 0 then L_X8_finds_33 n v1 (0 : Int32) (v3 + 2) x else (if 0 ≤ v3.toInt ∧ v3.toInt < 12 then (if (36 : Int32) ≤ ((x.2.2.1 42) v3.toNatClampNeg) then L_X8_finds_33 n v1 (0 : Int32) (v3 + 2) x else L_X8_finds_33 n v1 (1 : Int32) (v3 + 2) x) else none)))
theorem L_X8_finds_33_ok (d : Nat) (post : Option Value → am_X → Prop) (w1 : Int32) (w2 : Int32) (w3 : Int32) (y : am_X) : ∀ (n : Nat) (v1 : Int32) (v2 : Int32) (v3 : Int32) (x : am_X), L_X8_finds_33 n v1 v2 v3 x = some (w1, w2, w3, y) → am_Rr (d + 5) kX8_finds (68, [some (.ref 27), some (.int w1), some (.int w2), some (.int w3), none, none], [], y) post → am_Rr (d + 5) kX8_finds (33, [some (.ref 27), some (.int v1), some (.int v2), some (.int v3), none, none], [], x) post := by
  intro n
  induction n with
  | zero =>
    intro v1 v2 v3 x hF
    cases hF
  | succ n ih =>
    intro v1 v2 v3 x hF hk
    rw [L_X8_finds_33] at hF
    refine am_Rr.go 4 (σ' := (if (x.1 885) ≤ v3 then 68 else 41, [some (.ref 27), some (.int v1), some (.int v2), some (.int v3), none, none], [], x)) rfl ?_
    refine am_Rr.ite (fun h7 => ?_) (fun h7 => ?_)
    · rw [if_pos h7] at hF
      cases hF
      exact hk
    · rw [if_neg h7] at hF
      refine am_Rr.go 2 (σ' := (if v2 = 0 then 60 else 45, [some (.ref 27), some (.int v1), some (.int v2), some (.int v3), none, none], [], x)) rfl ?_
      refine am_Rr.ite (fun h8 => ?_) (fun h8 => ?_)
      · rw [if_pos h8] at hF
        refine am_Rr.go 4 (σ' := (33, [some (.ref 27), some (.int v1), some (.int 0), some (.int (v3 + 2)), none, none], [], x)) rfl ?_
        exact ih _ _ _ _ hF hk
      · rw [if_neg h8] at hF
        refine am_Rr.go 3 (σ' := (50, [some (.ref 27), some (.int v1), some (.int v2), some (.int v3), none, none], [.int v3, .ref 42], x)) rfl ?_
        by_cases c9 : 0 ≤ v3.toInt ∧ v3.toInt < 12
        · rw [if_pos c9] at hF
          refine am_Rr.chk (σ' := (51, [some (.ref 27), some (.int v1), some (.int v2), some (.int v3), none, none], [.int ((x.2.2.1 42) v3.toNatClampNeg)], x)) rfl (by exact vp_in_iff.mpr c9) ?_
          refine am_Rr.go 2 (σ' := (if (36 : Int32) ≤ ((x.2.2.1 42) v3.toNatClampNeg) then 60 else 56, [some (.ref 27), some (.int v1), some (.int v2), some (.int v3), none, none], [], x)) rfl ?_
          refine am_Rr.ite (fun h10 => ?_) (fun h10 => ?_)
          · rw [if_pos h10] at hF
            refine am_Rr.go 4 (σ' := (33, [some (.ref 27), some (.int v1), some (.int 0), some (.int (v3 + 2)), none, none], [], x)) rfl ?_
            exact ih _ _ _ _ hF hk
          · rw [if_neg h10] at hF
            refine am_Rr.go 5 (σ' := (33, [some (.ref 27), some (.int v1), some (.int 1), some (.int (v3 + 2)), none, none], [], x)) rfl ?_
            exact ih _ _ _ _ hF hk
        · rw [if_neg c9] at hF
          cases hF
noncomputable def L_X8_finds_103 : Nat → Int32 → Int32 → Int32 → Int32 → am_X → Option (Int32 × Int32 × Int32 × Int32 × am_X)
  | 0, _, _, _, _, _ => none
  | n + 1, v1, v3, v4, v5, x => (if (36 : Int32) ≤ v5 then some (v1, v3, v4, v5, x) else (match G_X8_kindOf v5 x with | none => none | some (r25, x26) => (if r25 = 1 then L_X8_finds_103 n v1 v3 v4 (v5 + 1) x26 else (match G_X8_firstWrong v5 x26 with | none => none | some (r29, x30) => (if r29 = (-9) then (if v4 = (-9) then L_X8_finds_103 n v1 (v3 + 1) v5 (v5 + 1) x30 else L_X8_finds_103 n v1 (v3 + 1) v4 (v5 + 1) x30) else L_X8_finds_103 n v1 v3 v4 (v5 + 1) x30)))))
theorem L_X8_finds_103_ok (d : Nat) (post : Option Value → am_X → Prop) (w1 : Int32) (w3 : Int32) (w4 : Int32) (w5 : Int32) (y : am_X) : ∀ (n : Nat) (v1 : Int32) (v3 : Int32) (v4 : Int32) (v5 : Int32) (x : am_X), L_X8_finds_103 n v1 v3 v4 v5 x = some (w1, w3, w4, w5, y) → am_Rr (d + 5) kX8_finds (156, [some (.ref 27), some (.int w1), none, some (.int w3), some (.int w4), some (.int w5)], [], y) post → am_Rr (d + 5) kX8_finds (103, [some (.ref 27), some (.int v1), none, some (.int v3), some (.int v4), some (.int v5)], [], x) post := by
  intro n
  induction n with
  | zero =>
    intro v1 v3 v4 v5 x hF
    cases hF
  | succ n ih =>
    intro v1 v3 v4 v5 x hF hk
    rw [L_X8_finds_103] at hF
    refine am_Rr.go 3 (σ' := (if (36 : Int32) ≤ v5 then 156 else 110, [some (.ref 27), some (.int v1), none, some (.int v3), some (.int v4), some (.int v5)], [], x)) rfl ?_
    refine am_Rr.ite (fun h24 => ?_) (fun h24 => ?_)
    · rw [if_pos h24] at hF
      cases hF
      exact hk
    · rw [if_neg h24] at hF
      refine am_Rr.go 2 (σ' := (113, [some (.ref 27), some (.int v1), none, some (.int v3), some (.int v4), some (.int v5)], [.int v5, .ref 27], x)) rfl ?_
      cases g27 : G_X8_kindOf v5 x with
      | none => rw [g27] at hF; cases hF
      | some q_ =>
        obtain ⟨r25, x26⟩ := q_
        rw [g27] at hF
        dsimp only at hF
        refine am_Rr.call (pc := 116) (ls := [some (.ref 27), some (.int v1), none, some (.int v3), some (.int v4), some (.int v5)]) (st := []) rfl (A_X8_kindOf (d + 3) g27) ?_
        rintro _ _ ⟨rfl, rfl⟩
        show am_Rr _ _ (116, [some (.ref 27), some (.int v1), none, some (.int v3), some (.int v4), some (.int v5)], [.int r25], x26) _
        refine am_Rr.go 2 (σ' := (if r25 = 1 then 150 else 120, [some (.ref 27), some (.int v1), none, some (.int v3), some (.int v4), some (.int v5)], [], x26)) rfl ?_
        refine am_Rr.ite (fun h28 => ?_) (fun h28 => ?_)
        · rw [if_pos h28] at hF
          refine am_Rr.go 2 (σ' := (103, [some (.ref 27), some (.int v1), none, some (.int v3), some (.int v4), some (.int (v5 + 1))], [], x26)) rfl ?_
          exact ih _ _ _ _ _ hF hk
        · rw [if_neg h28] at hF
          refine am_Rr.go 2 (σ' := (123, [some (.ref 27), some (.int v1), none, some (.int v3), some (.int v4), some (.int v5)], [.int v5, .ref 27], x26)) rfl ?_
          cases g31 : G_X8_firstWrong v5 x26 with
          | none => rw [g31] at hF; cases hF
          | some q_ =>
            obtain ⟨r29, x30⟩ := q_
            rw [g31] at hF
            dsimp only at hF
            refine am_Rr.call (pc := 126) (ls := [some (.ref 27), some (.int v1), none, some (.int v3), some (.int v4), some (.int v5)]) (st := []) rfl (A_X8_firstWrong d g31) ?_
            rintro _ _ ⟨rfl, rfl⟩
            show am_Rr _ _ (126, [some (.ref 27), some (.int v1), none, some (.int v3), some (.int v4), some (.int v5)], [.int r29], x30) _
            refine am_Rr.go 2 (σ' := (if r29 = (-9) then 131 else 150, [some (.ref 27), some (.int v1), none, some (.int v3), some (.int v4), some (.int v5)], [], x30)) rfl ?_
            refine am_Rr.ite (fun h32 => ?_) (fun h32 => ?_)
            · rw [if_pos h32] at hF
              refine am_Rr.go 4 (σ' := (if v4 = (-9) then 141 else 146, [some (.ref 27), some (.int v1), none, some (.int (v3 + 1)), some (.int v4), some (.int v5)], [], x30)) rfl ?_
              refine am_Rr.ite (fun h33 => ?_) (fun h33 => ?_)
              · rw [if_pos h33] at hF
                refine am_Rr.go 5 (σ' := (103, [some (.ref 27), some (.int v1), none, some (.int (v3 + 1)), some (.int v5), some (.int (v5 + 1))], [], x30)) rfl ?_
                exact ih _ _ _ _ _ hF hk
              · rw [if_neg h33] at hF
                refine am_Rr.go 4 (σ' := (103, [some (.ref 27), some (.int v1), none, some (.int (v3 + 1)), some (.int v4), some (.int (v5 + 1))], [], x30)) rfl ?_
                exact ih _ _ _ _ _ hF hk
            · rw [if_neg h32] at hF
              refine am_Rr.go 2 (σ' := (103, [some (.ref 27), some (.int v1), none, some (.int v3), some (.int v4), some (.int (v5 + 1))], [], x30)) rfl ?_
              exact ih _ _ _ _ _ hF hk
noncomputable def G_X8_finds (a : Int32) (x : am_X) : Option (Int32 × am_X) := (if a < 0 then (match G_X8_no (-2 : Int32) x with | none => none | some (r2, x3) => some (r2, x3)) else (if a ≤ 2 then (if ((x.1 885) - (x.1 885) / 2 * 2) = 0 then (match L_X8_finds_33 1000 a (1 : Int32) (0 : Int32) x with | none => none | some (v12, v13, v14, x11) => (if v13 = 0 then (match G_X8_no (-3 : Int32) x11 with | none => none | some (r17, x18) => some (r17, x18)) else (if v12 = 0 then (match G_X8_firstWrong ((x11.2.2.1 29) 0) x11 with | none => none | some (r21, x22) => some (r21, x22)) else (match L_X8_finds_103 1000 v12 (0 : Int32) (-9 : Int32) (0 : Int32) x11 with | none => none | some (v35, v36, v37, v38, x34) => (if v35 = 1 then some (v36, x34) else some (v37, x34)))))) else (match L_X8_finds_33 1000 a (0 : Int32) (0 : Int32) x with | none => none | some (v42, v43, v44, x41) => (if v43 = 0 then (match G_X8_no (-3 : Int32) x41 with | none => none | some (r47, x48) => some (r47, x48)) else (if v42 = 0 then (match G_X8_firstWrong ((x41.2.2.1 29) 0) x41 with | none => none | some (r51, x52) => some (r51, x52)) else (match L_X8_finds_103 1000 v42 (0 : Int32) (-9 : Int32) (0 : Int32) x41 with | none => none | some (v55, v56, v57, v58, x54) => (if v55 = 1 then some (v56, x54) else some (v57, x54))))))) else (match G_X8_no (-2 : Int32) x with | none => none | some (r61, x62) => some (r61, x62))))
theorem A_X8_finds (d : Nat) {a : Int32} {x : am_X} {res : Int32 × am_X} (hF : G_X8_finds a x = some res) : am_T (d + 6) mX8_finds [.ref 27, .int a] x (fun ro y => ro = some (.int res.1) ∧ res.2 = y) := by
  refine am_T.of rfl ?_
  show am_Rr (d + 5) kX8_finds (0, [some (.ref 27), some (.int a), none, none, none, none], [], x) _
  unfold G_X8_finds at hF
  refine am_Rr.go 2 (σ' := (if a < 0 then 9 else 4, [some (.ref 27), some (.int a), none, none, none, none], [], x)) rfl ?_
  refine am_Rr.ite (fun h1 => ?_) (fun h1 => ?_)
  · rw [if_pos h1] at hF
    refine am_Rr.go 2 (σ' := (12, [some (.ref 27), some (.int a), none, none, none, none], [.int (-2), .ref 27], x)) rfl ?_
    cases g4 : G_X8_no (-2 : Int32) x with
    | none => rw [g4] at hF; cases hF
    | some q_ =>
      obtain ⟨r2, x3⟩ := q_
      rw [g4] at hF
      dsimp only at hF
      refine am_Rr.call (pc := 15) (ls := [some (.ref 27), some (.int a), none, none, none, none]) (st := []) rfl (A_X8_no (d + 3) g4) ?_
      rintro _ _ ⟨rfl, rfl⟩
      show am_Rr _ _ (15, [some (.ref 27), some (.int a), none, none, none, none], [.int r2], x3) _
      obtain rfl := Option.some.inj hF
      exact am_Rr.ret (v := some (.int r2)) (x := x3) rfl (by trivial) ⟨rfl, rfl⟩
  · rw [if_neg h1] at hF
    refine am_Rr.go 3 (σ' := (if a ≤ 2 then 16 else 9, [some (.ref 27), some (.int a), none, none, none, none], [], x)) rfl ?_
    refine am_Rr.ite (fun h5 => ?_) (fun h5 => ?_)
    · rw [if_pos h5] at hF
      refine am_Rr.go 3 (σ' := (21, [some (.ref 27), some (.int a), none, none, none, none], [.int 2, .int (x.1 885)], x)) rfl ?_
      refine am_Rr.chk (σ' := (22, [some (.ref 27), some (.int a), none, none, none, none], [.int ((x.1 885) - (x.1 885) / 2 * 2)], x)) rfl (by decide) ?_
      refine am_Rr.go 1 (σ' := (if ((x.1 885) - (x.1 885) / 2 * 2) = 0 then 25 else 29, [some (.ref 27), some (.int a), none, none, none, none], [], x)) rfl ?_
      refine am_Rr.ite (fun h6 => ?_) (fun h6 => ?_)
      · rw [if_pos h6] at hF
        refine am_Rr.go 5 (σ' := (33, [some (.ref 27), some (.int a), some (.int 1), some (.int 0), none, none], [], x)) rfl ?_
        cases g15 : L_X8_finds_33 1000 a (1 : Int32) (0 : Int32) x with
        | none => rw [g15] at hF; cases hF
        | some q_ =>
          obtain ⟨v12, v13, v14, x11⟩ := q_
          rw [g15] at hF
          dsimp only at hF
          refine L_X8_finds_33_ok d _ v12 v13 v14 x11 _ _ _ _ _ g15 ?_
          refine am_Rr.go 2 (σ' := (if v13 = 0 then 72 else 79, [some (.ref 27), some (.int v12), some (.int v13), some (.int v14), none, none], [], x11)) rfl ?_
          refine am_Rr.ite (fun h16 => ?_) (fun h16 => ?_)
          · rw [if_pos h16] at hF
            refine am_Rr.go 2 (σ' := (75, [some (.ref 27), some (.int v12), some (.int v13), some (.int v14), none, none], [.int (-3), .ref 27], x11)) rfl ?_
            cases g19 : G_X8_no (-3 : Int32) x11 with
            | none => rw [g19] at hF; cases hF
            | some q_ =>
              obtain ⟨r17, x18⟩ := q_
              rw [g19] at hF
              dsimp only at hF
              refine am_Rr.call (pc := 78) (ls := [some (.ref 27), some (.int v12), some (.int v13), some (.int v14), none, none]) (st := []) rfl (A_X8_no (d + 3) g19) ?_
              rintro _ _ ⟨rfl, rfl⟩
              show am_Rr _ _ (78, [some (.ref 27), some (.int v12), some (.int v13), some (.int v14), none, none], [.int r17], x18) _
              obtain rfl := Option.some.inj hF
              exact am_Rr.ret (v := some (.int r17)) (x := x18) rfl (by trivial) ⟨rfl, rfl⟩
          · rw [if_neg h16] at hF
            refine am_Rr.go 2 (σ' := (if v12 = 0 then 83 else 94, [some (.ref 27), some (.int v12), some (.int v13), some (.int v14), none, none], [], x11)) rfl ?_
            refine am_Rr.ite (fun h20 => ?_) (fun h20 => ?_)
            · rw [if_pos h20] at hF
              refine am_Rr.go 4 (σ' := (89, [some (.ref 27), some (.int v12), some (.int v13), some (.int v14), none, none], [.int 0, .ref 29, .ref 27], x11)) rfl ?_
              refine am_Rr.chk (σ' := (90, [some (.ref 27), some (.int v12), some (.int v13), some (.int v14), none, none], [.int ((x11.2.2.1 29) 0), .ref 27], x11)) rfl (by unfold vp_in; decide) ?_
              cases g23 : G_X8_firstWrong ((x11.2.2.1 29) 0) x11 with
              | none => rw [g23] at hF; cases hF
              | some q_ =>
                obtain ⟨r21, x22⟩ := q_
                rw [g23] at hF
                dsimp only at hF
                refine am_Rr.call (pc := 93) (ls := [some (.ref 27), some (.int v12), some (.int v13), some (.int v14), none, none]) (st := []) rfl (A_X8_firstWrong d g23) ?_
                rintro _ _ ⟨rfl, rfl⟩
                show am_Rr _ _ (93, [some (.ref 27), some (.int v12), some (.int v13), some (.int v14), none, none], [.int r21], x22) _
                obtain rfl := Option.some.inj hF
                exact am_Rr.ret (v := some (.int r21)) (x := x22) rfl (by trivial) ⟨rfl, rfl⟩
            · rw [if_neg h20] at hF
              refine am_Rr.go 6 (σ' := (103, [some (.ref 27), some (.int v12), some (.int v13), some (.int 0), some (.int (-9)), some (.int 0)], [], x11)) rfl ?_
              refine am_Rr.weak (ls0 := [some (.ref 27), some (.int v12), none, some (.int 0), some (.int (-9)), some (.int 0)]) (by simp [am_le]) ?_
              cases g39 : L_X8_finds_103 1000 v12 (0 : Int32) (-9 : Int32) (0 : Int32) x11 with
              | none => rw [g39] at hF; cases hF
              | some q_ =>
                obtain ⟨v35, v36, v37, v38, x34⟩ := q_
                rw [g39] at hF
                dsimp only at hF
                refine L_X8_finds_103_ok d _ v35 v36 v37 v38 x34 _ _ _ _ _ _ g39 ?_
                refine am_Rr.go 3 (σ' := (if v35 = 1 then 161 else 165, [some (.ref 27), some (.int v35), none, some (.int v36), some (.int v37), some (.int v38)], [], x34)) rfl ?_
                refine am_Rr.ite (fun h40 => ?_) (fun h40 => ?_)
                · rw [if_pos h40] at hF
                  refine am_Rr.go 2 (σ' := (167, [some (.ref 27), some (.int v35), none, some (.int v36), some (.int v37), some (.int v38)], [.int v36], x34)) rfl ?_
                  obtain rfl := Option.some.inj hF
                  exact am_Rr.ret (v := some (.int v36)) (x := x34) rfl (by trivial) ⟨rfl, rfl⟩
                · rw [if_neg h40] at hF
                  refine am_Rr.go 1 (σ' := (167, [some (.ref 27), some (.int v35), none, some (.int v36), some (.int v37), some (.int v38)], [.int v37], x34)) rfl ?_
                  obtain rfl := Option.some.inj hF
                  exact am_Rr.ret (v := some (.int v37)) (x := x34) rfl (by trivial) ⟨rfl, rfl⟩
      · rw [if_neg h6] at hF
        refine am_Rr.go 4 (σ' := (33, [some (.ref 27), some (.int a), some (.int 0), some (.int 0), none, none], [], x)) rfl ?_
        cases g45 : L_X8_finds_33 1000 a (0 : Int32) (0 : Int32) x with
        | none => rw [g45] at hF; cases hF
        | some q_ =>
          obtain ⟨v42, v43, v44, x41⟩ := q_
          rw [g45] at hF
          dsimp only at hF
          refine L_X8_finds_33_ok d _ v42 v43 v44 x41 _ _ _ _ _ g45 ?_
          refine am_Rr.go 2 (σ' := (if v43 = 0 then 72 else 79, [some (.ref 27), some (.int v42), some (.int v43), some (.int v44), none, none], [], x41)) rfl ?_
          refine am_Rr.ite (fun h46 => ?_) (fun h46 => ?_)
          · rw [if_pos h46] at hF
            refine am_Rr.go 2 (σ' := (75, [some (.ref 27), some (.int v42), some (.int v43), some (.int v44), none, none], [.int (-3), .ref 27], x41)) rfl ?_
            cases g49 : G_X8_no (-3 : Int32) x41 with
            | none => rw [g49] at hF; cases hF
            | some q_ =>
              obtain ⟨r47, x48⟩ := q_
              rw [g49] at hF
              dsimp only at hF
              refine am_Rr.call (pc := 78) (ls := [some (.ref 27), some (.int v42), some (.int v43), some (.int v44), none, none]) (st := []) rfl (A_X8_no (d + 3) g49) ?_
              rintro _ _ ⟨rfl, rfl⟩
              show am_Rr _ _ (78, [some (.ref 27), some (.int v42), some (.int v43), some (.int v44), none, none], [.int r47], x48) _
              obtain rfl := Option.some.inj hF
              exact am_Rr.ret (v := some (.int r47)) (x := x48) rfl (by trivial) ⟨rfl, rfl⟩
          · rw [if_neg h46] at hF
            refine am_Rr.go 2 (σ' := (if v42 = 0 then 83 else 94, [some (.ref 27), some (.int v42), some (.int v43), some (.int v44), none, none], [], x41)) rfl ?_
            refine am_Rr.ite (fun h50 => ?_) (fun h50 => ?_)
            · rw [if_pos h50] at hF
              refine am_Rr.go 4 (σ' := (89, [some (.ref 27), some (.int v42), some (.int v43), some (.int v44), none, none], [.int 0, .ref 29, .ref 27], x41)) rfl ?_
              refine am_Rr.chk (σ' := (90, [some (.ref 27), some (.int v42), some (.int v43), some (.int v44), none, none], [.int ((x41.2.2.1 29) 0), .ref 27], x41)) rfl (by unfold vp_in; decide) ?_
              cases g53 : G_X8_firstWrong ((x41.2.2.1 29) 0) x41 with
              | none => rw [g53] at hF; cases hF
              | some q_ =>
                obtain ⟨r51, x52⟩ := q_
                rw [g53] at hF
                dsimp only at hF
                refine am_Rr.call (pc := 93) (ls := [some (.ref 27), some (.int v42), some (.int v43), some (.int v44), none, none]) (st := []) rfl (A_X8_firstWrong d g53) ?_
                rintro _ _ ⟨rfl, rfl⟩
                show am_Rr _ _ (93, [some (.ref 27), some (.int v42), some (.int v43), some (.int v44), none, none], [.int r51], x52) _
                obtain rfl := Option.some.inj hF
                exact am_Rr.ret (v := some (.int r51)) (x := x52) rfl (by trivial) ⟨rfl, rfl⟩
            · rw [if_neg h50] at hF
              refine am_Rr.go 6 (σ' := (103, [some (.ref 27), some (.int v42), some (.int v43), some (.int 0), some (.int (-9)), some (.int 0)], [], x41)) rfl ?_
              refine am_Rr.weak (ls0 := [some (.ref 27), some (.int v42), none, some (.int 0), some (.int (-9)), some (.int 0)]) (by simp [am_le]) ?_
              cases g59 : L_X8_finds_103 1000 v42 (0 : Int32) (-9 : Int32) (0 : Int32) x41 with
              | none => rw [g59] at hF; cases hF
              | some q_ =>
                obtain ⟨v55, v56, v57, v58, x54⟩ := q_
                rw [g59] at hF
                dsimp only at hF
                refine L_X8_finds_103_ok d _ v55 v56 v57 v58 x54 _ _ _ _ _ _ g59 ?_
                refine am_Rr.go 3 (σ' := (if v55 = 1 then 161 else 165, [some (.ref 27), some (.int v55), none, some (.int v56), some (.int v57), some (.int v58)], [], x54)) rfl ?_
                refine am_Rr.ite (fun h60 => ?_) (fun h60 => ?_)
                · rw [if_pos h60] at hF
                  refine am_Rr.go 2 (σ' := (167, [some (.ref 27), some (.int v55), none, some (.int v56), some (.int v57), some (.int v58)], [.int v56], x54)) rfl ?_
                  obtain rfl := Option.some.inj hF
                  exact am_Rr.ret (v := some (.int v56)) (x := x54) rfl (by trivial) ⟨rfl, rfl⟩
                · rw [if_neg h60] at hF
                  refine am_Rr.go 1 (σ' := (167, [some (.ref 27), some (.int v55), none, some (.int v56), some (.int v57), some (.int v58)], [.int v57], x54)) rfl ?_
                  obtain rfl := Option.some.inj hF
                  exact am_Rr.ret (v := some (.int v57)) (x := x54) rfl (by trivial) ⟨rfl, rfl⟩
    · rw [if_neg h5] at hF
      refine am_Rr.go 2 (σ' := (12, [some (.ref 27), some (.int a), none, none, none, none], [.int (-2), .ref 27], x)) rfl ?_
      cases g63 : G_X8_no (-2 : Int32) x with
      | none => rw [g63] at hF; cases hF
      | some q_ =>
        obtain ⟨r61, x62⟩ := q_
        rw [g63] at hF
        dsimp only at hF
        refine am_Rr.call (pc := 15) (ls := [some (.ref 27), some (.int a), none, none, none, none]) (st := []) rfl (A_X8_no (d + 3) g63) ?_
        rintro _ _ ⟨rfl, rfl⟩
        show am_Rr _ _ (15, [some (.ref 27), some (.int a), none, none, none, none], [.int r61], x62) _
        obtain rfl := Option.some.inj hF
        exact am_Rr.ret (v := some (.int r61)) (x := x62) rfl (by trivial) ⟨rfl, rfl⟩
noncomputable def L_X8_searchBy_8 : Nat → Int32 → Int32 → Int32 → am_X → Option (Int32 × am_X)
  | 0, _, _, _, _ => none
  | n + 1, v1, v2, v4, x => (if (200 : Int32) < v4 then some ((-9 : Int32), x) else (match G_X8_looks v1 v2 x with | none => none | some (r5, x6) => (match G_X8_passes r5 x6 with | none => none | some (_, x9) => (match G_X8_inSet  x9 with | none => none | some (r11, x12) => (if r11 = 0 then some (v4, x12) else L_X8_searchBy_8 n v1 v2 (v4 + 1) x12)))))
theorem L_X8_searchBy_8_ok (d : Nat) (res : Int32 × am_X) : ∀ (n : Nat) (v1 : Int32) (v2 : Int32) (v4 : Int32) (x : am_X), L_X8_searchBy_8 n v1 v2 v4 x = some res → am_Rr (d + 6) kX8_searchBy (8, [some (.ref 27), some (.int v1), some (.int v2), none, some (.int v4)], [], x) (fun ro y => ro = some (.int res.1) ∧ res.2 = y) := by
  intro n
  induction n with
  | zero =>
    intro v1 v2 v4 x hF
    cases hF
  | succ n ih =>
    intro v1 v2 v4 x hF
    rw [L_X8_searchBy_8] at hF
    refine am_Rr.go 3 (σ' := (if (200 : Int32) < v4 then 42 else 16, [some (.ref 27), some (.int v1), some (.int v2), none, some (.int v4)], [], x)) rfl ?_
    refine am_Rr.ite (fun h4 => ?_) (fun h4 => ?_)
    · rw [if_pos h4] at hF
      refine am_Rr.go 1 (σ' := (44, [some (.ref 27), some (.int v1), some (.int v2), none, some (.int v4)], [.int (-9)], x)) rfl ?_
      obtain rfl := Option.some.inj hF
      exact am_Rr.ret (v := some (.int (-9))) (x := x) rfl (by trivial) ⟨rfl, rfl⟩
    · rw [if_neg h4] at hF
      refine am_Rr.go 4 (σ' := (20, [some (.ref 27), some (.int v1), some (.int v2), none, some (.int v4)], [.int v2, .int v1, .ref 27, .ref 27], x)) rfl ?_
      cases g7 : G_X8_looks v1 v2 x with
      | none => rw [g7] at hF; cases hF
      | some q_ =>
        obtain ⟨r5, x6⟩ := q_
        rw [g7] at hF
        dsimp only at hF
        refine am_Rr.call (pc := 23) (ls := [some (.ref 27), some (.int v1), some (.int v2), none, some (.int v4)]) (st := [.ref 27]) rfl (A_X8_looks (d + 1) g7) ?_
        rintro _ _ ⟨rfl, rfl⟩
        show am_Rr _ _ (23, [some (.ref 27), some (.int v1), some (.int v2), none, some (.int v4)], [.int r5, .ref 27], x6) _
        cases g10 : G_X8_passes r5 x6 with
        | none => rw [g10] at hF; cases hF
        | some q_ =>
          obtain ⟨u_, x9⟩ := q_
          rw [g10] at hF
          dsimp only at hF
          refine am_Rr.call (pc := 26) (ls := [some (.ref 27), some (.int v1), some (.int v2), none, some (.int v4)]) (st := []) rfl (A_X8_passes (d + 2) g10) ?_
          rintro _ _ ⟨rfl, rfl⟩
          show am_Rr _ _ (26, [some (.ref 27), some (.int v1), some (.int v2), none, some (.int v4)], [], x9) _
          refine am_Rr.go 1 (σ' := (27, [some (.ref 27), some (.int v1), some (.int v2), none, some (.int v4)], [.ref 27], x9)) rfl ?_
          cases g13 : G_X8_inSet  x9 with
          | none => rw [g13] at hF; cases hF
          | some q_ =>
            obtain ⟨r11, x12⟩ := q_
            rw [g13] at hF
            dsimp only at hF
            refine am_Rr.call (pc := 30) (ls := [some (.ref 27), some (.int v1), some (.int v2), none, some (.int v4)]) (st := []) rfl (A_X8_inSet (d + 4) g13) ?_
            rintro _ _ ⟨rfl, rfl⟩
            show am_Rr _ _ (30, [some (.ref 27), some (.int v1), some (.int v2), none, some (.int v4)], [.int r11], x12) _
            refine am_Rr.go 1 (σ' := (if r11 = 0 then 33 else 36, [some (.ref 27), some (.int v1), some (.int v2), none, some (.int v4)], [], x12)) rfl ?_
            refine am_Rr.ite (fun h14 => ?_) (fun h14 => ?_)
            · rw [if_pos h14] at hF
              refine am_Rr.go 1 (σ' := (35, [some (.ref 27), some (.int v1), some (.int v2), none, some (.int v4)], [.int v4], x12)) rfl ?_
              obtain rfl := Option.some.inj hF
              exact am_Rr.ret (v := some (.int v4)) (x := x12) rfl (by trivial) ⟨rfl, rfl⟩
            · rw [if_neg h14] at hF
              refine am_Rr.go 2 (σ' := (8, [some (.ref 27), some (.int v1), some (.int v2), none, some (.int (v4 + 1))], [], x12)) rfl ?_
              exact ih _ _ _ _ hF
noncomputable def G_X8_searchBy (a : Int32) (b : Int32) (e : Int32) (x : am_X) : Option (Int32 × am_X) := (match G_X8_begin e x with | none => none | some (_, x2) => L_X8_searchBy_8 1000 a b (1 : Int32) x2)
theorem A_X8_searchBy (d : Nat) {a : Int32} {b : Int32} {e : Int32} {x : am_X} {res : Int32 × am_X} (hF : G_X8_searchBy a b e x = some res) : am_T (d + 7) mX8_searchBy [.ref 27, .int a, .int b, .int e] x (fun ro y => ro = some (.int res.1) ∧ res.2 = y) := by
  refine am_T.of rfl ?_
  show am_Rr (d + 6) kX8_searchBy (0, [some (.ref 27), some (.int a), some (.int b), some (.int e), none], [], x) _
  unfold G_X8_searchBy at hF
  refine am_Rr.go 2 (σ' := (2, [some (.ref 27), some (.int a), some (.int b), some (.int e), none], [.int e, .ref 27], x)) rfl ?_
  cases g3 : G_X8_begin e x with
  | none => rw [g3] at hF; cases hF
  | some q_ =>
    obtain ⟨u_, x2⟩ := q_
    rw [g3] at hF
    dsimp only at hF
    refine am_Rr.call (pc := 5) (ls := [some (.ref 27), some (.int a), some (.int b), some (.int e), none]) (st := []) rfl (A_X8_begin d g3) ?_
    rintro _ _ ⟨rfl, rfl⟩
    show am_Rr _ _ (5, [some (.ref 27), some (.int a), some (.int b), some (.int e), none], [], x2) _
    refine am_Rr.go 2 (σ' := (8, [some (.ref 27), some (.int a), some (.int b), some (.int e), some (.int 1)], [], x2)) rfl ?_
    refine am_Rr.weak (ls0 := [some (.ref 27), some (.int a), some (.int b), none, some (.int 1)]) (by simp [am_le]) ?_
    exact L_X8_searchBy_8_ok d res _ _ _ _ _ hF
