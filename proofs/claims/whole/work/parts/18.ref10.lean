noncomputable def L_X8_likely_72 : Nat → Int32 → Int32 → Int64 → Int64 → Int64 → am_X → Option (Int32 × Int32 × Int64 × Int64 × Int64 × am_X)
  | 0, _, _, _, _, _, _ => none
  | n + 1, v2, v3, v4, v6, v8, x => (if (lg_cmp v8 0) = 0 then some (v2, v3, v4, v6, v8, x) else (if ¬ v8 = 0 then L_X8_likely_72 n v2 v3 v4 v8 (v6 - v6 / v8 * v8) x else none))
theorem L_X8_likely_72_ok (d : Nat) (post : Option Value → am_X → Prop) (w2 : Int32) (w3 : Int32) (w4 : Int64) (w6 : Int64) (w8 : Int64) (y : am_X) : ∀ (n : Nat) (v2 : Int32) (v3 : Int32) (v4 : Int64) (v6 : Int64) (v8 : Int64) (x : am_X), L_X8_likely_72 n v2 v3 v4 v6 v8 x = some (w2, w3, w4, w6, w8, y) → am_Rr (d + 4) kX8_likely (97, [some (.ref 27), none, some (.int w2), some (.int w3), some (.long w4), none, some (.long w6), none, some (.long w8), none, none, none], [], y) post → am_Rr (d + 4) kX8_likely (72, [some (.ref 27), none, some (.int v2), some (.int v3), some (.long v4), none, some (.long v6), none, some (.long v8), none, none, none], [], x) post := by
  intro n
  induction n with
  | zero =>
    intro v2 v3 v4 v6 v8 x hF
    cases hF
  | succ n ih =>
    intro v2 v3 v4 v6 v8 x hF hk
    rw [L_X8_likely_72] at hF
    refine am_Rr.go 4 (σ' := (if (lg_cmp v8 0) = 0 then 97 else 79, [some (.ref 27), none, some (.int v2), some (.int v3), some (.long v4), none, some (.long v6), none, some (.long v8), none, none, none], [], x)) rfl ?_
    refine am_Rr.ite (fun h12 => ?_) (fun h12 => ?_)
    · rw [if_pos h12] at hF
      cases hF
      exact hk
    · rw [if_neg h12] at hF
      refine am_Rr.go 2 (σ' := (83, [some (.ref 27), none, some (.int v2), some (.int v3), some (.long v4), none, some (.long v6), none, some (.long v8), none, none, none], [.long v8, .long v6], x)) rfl ?_
      by_cases c13 : ¬ v8 = 0
      · rw [if_pos c13] at hF
        refine am_Rr.chk (σ' := (84, [some (.ref 27), none, some (.int v2), some (.int v3), some (.long v4), none, some (.long v6), none, some (.long v8), none, none, none], [.long (v6 - v6 / v8 * v8)], x)) rfl (by exact c13) ?_
        refine am_Rr.go 6 (σ' := (72, [some (.ref 27), none, some (.int v2), some (.int v3), some (.long v4), none, some (.long v8), none, some (.long (v6 - v6 / v8 * v8)), none, some (.long (v6 - v6 / v8 * v8)), none], [], x)) rfl ?_
        refine am_Rr.weak (ls0 := [some (.ref 27), none, some (.int v2), some (.int v3), some (.long v4), none, some (.long v8), none, some (.long (v6 - v6 / v8 * v8)), none, none, none]) (by simp [am_le]) ?_
        exact ih _ _ _ _ _ _ hF hk
      · rw [if_neg c13] at hF
        cases hF
noncomputable def G_X8_likely (a : Int32) (b : Int32) (e : Int32) (x : am_X) : Option (Int64 × am_X) := (if (0 : Int32) ≤ a then (if a ≤ 20 then (match G_X8_isNoSquare b x with | none => none | some (r3, x4) => (if r3 = 0 then (if e = 0 then (match G_X8_waysOf a x4 with | none => none | some (r8, x9) => (if 0 ≤ b.toInt ∧ b.toInt < 36 then (match L_X8_likely_72 1000 b e r8 ((x9.2.2.2 43) b.toNatClampNeg) r8 x9 with | none => none | some (v15, v16, v17, v18, v19, x14) => (if v16 = 0 then (if 0 ≤ v15.toInt ∧ v15.toInt < 36 then (if ¬ v18 = 0 then some ((((x14.2.2.2 43) v15.toNatClampNeg) / v18), x14) else none) else none) else (if ¬ v18 = 0 then some ((v17 / v18), x14) else none))) else none)) else (if e = 1 then (match G_X8_waysOf a x4 with | none => none | some (r26, x27) => (if 0 ≤ b.toInt ∧ b.toInt < 36 then (match L_X8_likely_72 1000 b e r26 ((x27.2.2.2 43) b.toNatClampNeg) r26 x27 with | none => none | some (v31, v32, v33, v34, v35, x30) => (if v32 = 0 then (if 0 ≤ v31.toInt ∧ v31.toInt < 36 then (if ¬ v34 = 0 then some ((((x30.2.2.2 43) v31.toNatClampNeg) / v34), x30) else none) else none) else (if ¬ v34 = 0 then some ((v33 / v34), x30) else none))) else none)) else (match G_X8_noLong (-2 : Int32) x4 with | none => none | some (r41, x42) => some (r41, x42)))) else (match G_X8_noLong (-1 : Int32) x4 with | none => none | some (r44, x45) => some (r44, x45)))) else (match G_X8_noLong (-6 : Int32) x with | none => none | some (r47, x48) => some (r47, x48))) else (match G_X8_noLong (-4 : Int32) x with | none => none | some (r50, x51) => some (r50, x51)))
theorem A_X8_likely (d : Nat) {a : Int32} {b : Int32} {e : Int32} {x : am_X} {res : Int64 × am_X} (hF : G_X8_likely a b e x = some res) : am_T (d + 5) mX8_likely [.ref 27, .int a, .int b, .int e] x (fun ro y => ro = some (.long res.1) ∧ res.2 = y) := by
  refine am_T.of rfl ?_
  show am_Rr (d + 4) kX8_likely (0, [some (.ref 27), some (.int a), some (.int b), some (.int e), none, none, none, none, none, none, none, none], [], x) _
  unfold G_X8_likely at hF
  refine am_Rr.go 2 (σ' := (if (0 : Int32) ≤ a then 11 else 4, [some (.ref 27), some (.int a), some (.int b), some (.int e), none, none, none, none, none, none, none, none], [], x)) rfl ?_
  refine am_Rr.ite (fun h1 => ?_) (fun h1 => ?_)
  · rw [if_pos h1] at hF
    refine am_Rr.go 3 (σ' := (if a ≤ 20 then 24 else 17, [some (.ref 27), some (.int a), some (.int b), some (.int e), none, none, none, none, none, none, none, none], [], x)) rfl ?_
    refine am_Rr.ite (fun h2 => ?_) (fun h2 => ?_)
    · rw [if_pos h2] at hF
      refine am_Rr.go 1 (σ' := (25, [some (.ref 27), some (.int a), some (.int b), some (.int e), none, none, none, none, none, none, none, none], [.int b], x)) rfl ?_
      cases g5 : G_X8_isNoSquare b x with
      | none => rw [g5] at hF; cases hF
      | some q_ =>
        obtain ⟨r3, x4⟩ := q_
        rw [g5] at hF
        dsimp only at hF
        refine am_Rr.call (pc := 28) (ls := [some (.ref 27), some (.int a), some (.int b), some (.int e), none, none, none, none, none, none, none, none]) (st := []) rfl (A_X8_isNoSquare (d + 2) g5) ?_
        rintro _ _ ⟨rfl, rfl⟩
        show am_Rr _ _ (28, [some (.ref 27), some (.int a), some (.int b), some (.int e), none, none, none, none, none, none, none, none], [.int r3], x4) _
        refine am_Rr.go 1 (σ' := (if r3 = 0 then 37 else 31, [some (.ref 27), some (.int a), some (.int b), some (.int e), none, none, none, none, none, none, none, none], [], x4)) rfl ?_
        refine am_Rr.ite (fun h6 => ?_) (fun h6 => ?_)
        · rw [if_pos h6] at hF
          refine am_Rr.go 2 (σ' := (if e = 0 then 53 else 41, [some (.ref 27), some (.int a), some (.int b), some (.int e), none, none, none, none, none, none, none, none], [], x4)) rfl ?_
          refine am_Rr.ite (fun h7 => ?_) (fun h7 => ?_)
          · rw [if_pos h7] at hF
            refine am_Rr.go 2 (σ' := (55, [some (.ref 27), some (.int a), some (.int b), some (.int e), none, none, none, none, none, none, none, none], [.int a, .ref 27], x4)) rfl ?_
            cases g10 : G_X8_waysOf a x4 with
            | none => rw [g10] at hF; cases hF
            | some q_ =>
              obtain ⟨r8, x9⟩ := q_
              rw [g10] at hF
              dsimp only at hF
              refine am_Rr.call (pc := 58) (ls := [some (.ref 27), some (.int a), some (.int b), some (.int e), none, none, none, none, none, none, none, none]) (st := []) rfl (A_X8_waysOf d g10) ?_
              rintro _ _ ⟨rfl, rfl⟩
              show am_Rr _ _ (58, [some (.ref 27), some (.int a), some (.int b), some (.int e), none, none, none, none, none, none, none, none], [.long r8], x9) _
              refine am_Rr.go 4 (σ' := (65, [some (.ref 27), some (.int a), some (.int b), some (.int e), some (.long r8), none, none, none, none, none, none, none], [.int b, .ref 43], x9)) rfl ?_
              by_cases c11 : 0 ≤ b.toInt ∧ b.toInt < 36
              · rw [if_pos c11] at hF
                refine am_Rr.chk (σ' := (66, [some (.ref 27), some (.int a), some (.int b), some (.int e), some (.long r8), none, none, none, none, none, none, none], [.long ((x9.2.2.2 43) b.toNatClampNeg)], x9)) rfl (by exact vp_in_iff.mpr c11) ?_
                refine am_Rr.go 3 (σ' := (72, [some (.ref 27), some (.int a), some (.int b), some (.int e), some (.long r8), none, some (.long ((x9.2.2.2 43) b.toNatClampNeg)), none, some (.long r8), none, none, none], [], x9)) rfl ?_
                refine am_Rr.weak (ls0 := [some (.ref 27), none, some (.int b), some (.int e), some (.long r8), none, some (.long ((x9.2.2.2 43) b.toNatClampNeg)), none, some (.long r8), none, none, none]) (by simp [am_le]) ?_
                cases g20 : L_X8_likely_72 1000 b e r8 ((x9.2.2.2 43) b.toNatClampNeg) r8 x9 with
                | none => rw [g20] at hF; cases hF
                | some q_ =>
                  obtain ⟨v15, v16, v17, v18, v19, x14⟩ := q_
                  rw [g20] at hF
                  dsimp only at hF
                  refine L_X8_likely_72_ok d _ v15 v16 v17 v18 v19 x14 _ _ _ _ _ _ _ g20 ?_
                  refine am_Rr.go 2 (σ' := (if v16 = 0 then 101 else 113, [some (.ref 27), none, some (.int v15), some (.int v16), some (.long v17), none, some (.long v18), none, some (.long v19), none, none, none], [], x14)) rfl ?_
                  refine am_Rr.ite (fun h21 => ?_) (fun h21 => ?_)
                  · rw [if_pos h21] at hF
                    refine am_Rr.go 3 (σ' := (106, [some (.ref 27), none, some (.int v15), some (.int v16), some (.long v17), none, some (.long v18), none, some (.long v19), none, none, none], [.int v15, .ref 43], x14)) rfl ?_
                    by_cases c22 : 0 ≤ v15.toInt ∧ v15.toInt < 36
                    · rw [if_pos c22] at hF
                      refine am_Rr.chk (σ' := (107, [some (.ref 27), none, some (.int v15), some (.int v16), some (.long v17), none, some (.long v18), none, some (.long v19), none, none, none], [.long ((x14.2.2.2 43) v15.toNatClampNeg)], x14)) rfl (by exact vp_in_iff.mpr c22) ?_
                      refine am_Rr.go 1 (σ' := (109, [some (.ref 27), none, some (.int v15), some (.int v16), some (.long v17), none, some (.long v18), none, some (.long v19), none, none, none], [.long v18, .long ((x14.2.2.2 43) v15.toNatClampNeg)], x14)) rfl ?_
                      by_cases c23 : ¬ v18 = 0
                      · rw [if_pos c23] at hF
                        refine am_Rr.chk (σ' := (110, [some (.ref 27), none, some (.int v15), some (.int v16), some (.long v17), none, some (.long v18), none, some (.long v19), none, none, none], [.long (((x14.2.2.2 43) v15.toNatClampNeg) / v18)], x14)) rfl (by exact c23) ?_
                        refine am_Rr.go 1 (σ' := (118, [some (.ref 27), none, some (.int v15), some (.int v16), some (.long v17), none, some (.long v18), none, some (.long v19), none, none, none], [.long (((x14.2.2.2 43) v15.toNatClampNeg) / v18)], x14)) rfl ?_
                        obtain rfl := Option.some.inj hF
                        exact am_Rr.ret (v := some (.long (((x14.2.2.2 43) v15.toNatClampNeg) / v18))) (x := x14) rfl (by trivial) ⟨rfl, rfl⟩
                      · rw [if_neg c23] at hF
                        cases hF
                    · rw [if_neg c22] at hF
                      cases hF
                  · rw [if_neg h21] at hF
                    refine am_Rr.go 2 (σ' := (117, [some (.ref 27), none, some (.int v15), some (.int v16), some (.long v17), none, some (.long v18), none, some (.long v19), none, none, none], [.long v18, .long v17], x14)) rfl ?_
                    by_cases c24 : ¬ v18 = 0
                    · rw [if_pos c24] at hF
                      refine am_Rr.chk (σ' := (118, [some (.ref 27), none, some (.int v15), some (.int v16), some (.long v17), none, some (.long v18), none, some (.long v19), none, none, none], [.long (v17 / v18)], x14)) rfl (by exact c24) ?_
                      obtain rfl := Option.some.inj hF
                      exact am_Rr.ret (v := some (.long (v17 / v18))) (x := x14) rfl (by trivial) ⟨rfl, rfl⟩
                    · rw [if_neg c24] at hF
                      cases hF
              · rw [if_neg c11] at hF
                cases hF
          · rw [if_neg h7] at hF
            refine am_Rr.go 3 (σ' := (if e = 1 then 53 else 46, [some (.ref 27), some (.int a), some (.int b), some (.int e), none, none, none, none, none, none, none, none], [], x4)) rfl ?_
            refine am_Rr.ite (fun h25 => ?_) (fun h25 => ?_)
            · rw [if_pos h25] at hF
              refine am_Rr.go 2 (σ' := (55, [some (.ref 27), some (.int a), some (.int b), some (.int e), none, none, none, none, none, none, none, none], [.int a, .ref 27], x4)) rfl ?_
              cases g28 : G_X8_waysOf a x4 with
              | none => rw [g28] at hF; cases hF
              | some q_ =>
                obtain ⟨r26, x27⟩ := q_
                rw [g28] at hF
                dsimp only at hF
                refine am_Rr.call (pc := 58) (ls := [some (.ref 27), some (.int a), some (.int b), some (.int e), none, none, none, none, none, none, none, none]) (st := []) rfl (A_X8_waysOf d g28) ?_
                rintro _ _ ⟨rfl, rfl⟩
                show am_Rr _ _ (58, [some (.ref 27), some (.int a), some (.int b), some (.int e), none, none, none, none, none, none, none, none], [.long r26], x27) _
                refine am_Rr.go 4 (σ' := (65, [some (.ref 27), some (.int a), some (.int b), some (.int e), some (.long r26), none, none, none, none, none, none, none], [.int b, .ref 43], x27)) rfl ?_
                by_cases c29 : 0 ≤ b.toInt ∧ b.toInt < 36
                · rw [if_pos c29] at hF
                  refine am_Rr.chk (σ' := (66, [some (.ref 27), some (.int a), some (.int b), some (.int e), some (.long r26), none, none, none, none, none, none, none], [.long ((x27.2.2.2 43) b.toNatClampNeg)], x27)) rfl (by exact vp_in_iff.mpr c29) ?_
                  refine am_Rr.go 3 (σ' := (72, [some (.ref 27), some (.int a), some (.int b), some (.int e), some (.long r26), none, some (.long ((x27.2.2.2 43) b.toNatClampNeg)), none, some (.long r26), none, none, none], [], x27)) rfl ?_
                  refine am_Rr.weak (ls0 := [some (.ref 27), none, some (.int b), some (.int e), some (.long r26), none, some (.long ((x27.2.2.2 43) b.toNatClampNeg)), none, some (.long r26), none, none, none]) (by simp [am_le]) ?_
                  cases g36 : L_X8_likely_72 1000 b e r26 ((x27.2.2.2 43) b.toNatClampNeg) r26 x27 with
                  | none => rw [g36] at hF; cases hF
                  | some q_ =>
                    obtain ⟨v31, v32, v33, v34, v35, x30⟩ := q_
                    rw [g36] at hF
                    dsimp only at hF
                    refine L_X8_likely_72_ok d _ v31 v32 v33 v34 v35 x30 _ _ _ _ _ _ _ g36 ?_
                    refine am_Rr.go 2 (σ' := (if v32 = 0 then 101 else 113, [some (.ref 27), none, some (.int v31), some (.int v32), some (.long v33), none, some (.long v34), none, some (.long v35), none, none, none], [], x30)) rfl ?_
                    refine am_Rr.ite (fun h37 => ?_) (fun h37 => ?_)
                    · rw [if_pos h37] at hF
                      refine am_Rr.go 3 (σ' := (106, [some (.ref 27), none, some (.int v31), some (.int v32), some (.long v33), none, some (.long v34), none, some (.long v35), none, none, none], [.int v31, .ref 43], x30)) rfl ?_
                      by_cases c38 : 0 ≤ v31.toInt ∧ v31.toInt < 36
                      · rw [if_pos c38] at hF
                        refine am_Rr.chk (σ' := (107, [some (.ref 27), none, some (.int v31), some (.int v32), some (.long v33), none, some (.long v34), none, some (.long v35), none, none, none], [.long ((x30.2.2.2 43) v31.toNatClampNeg)], x30)) rfl (by exact vp_in_iff.mpr c38) ?_
                        refine am_Rr.go 1 (σ' := (109, [some (.ref 27), none, some (.int v31), some (.int v32), some (.long v33), none, some (.long v34), none, some (.long v35), none, none, none], [.long v34, .long ((x30.2.2.2 43) v31.toNatClampNeg)], x30)) rfl ?_
                        by_cases c39 : ¬ v34 = 0
                        · rw [if_pos c39] at hF
                          refine am_Rr.chk (σ' := (110, [some (.ref 27), none, some (.int v31), some (.int v32), some (.long v33), none, some (.long v34), none, some (.long v35), none, none, none], [.long (((x30.2.2.2 43) v31.toNatClampNeg) / v34)], x30)) rfl (by exact c39) ?_
                          refine am_Rr.go 1 (σ' := (118, [some (.ref 27), none, some (.int v31), some (.int v32), some (.long v33), none, some (.long v34), none, some (.long v35), none, none, none], [.long (((x30.2.2.2 43) v31.toNatClampNeg) / v34)], x30)) rfl ?_
                          obtain rfl := Option.some.inj hF
                          exact am_Rr.ret (v := some (.long (((x30.2.2.2 43) v31.toNatClampNeg) / v34))) (x := x30) rfl (by trivial) ⟨rfl, rfl⟩
                        · rw [if_neg c39] at hF
                          cases hF
                      · rw [if_neg c38] at hF
                        cases hF
                    · rw [if_neg h37] at hF
                      refine am_Rr.go 2 (σ' := (117, [some (.ref 27), none, some (.int v31), some (.int v32), some (.long v33), none, some (.long v34), none, some (.long v35), none, none, none], [.long v34, .long v33], x30)) rfl ?_
                      by_cases c40 : ¬ v34 = 0
                      · rw [if_pos c40] at hF
                        refine am_Rr.chk (σ' := (118, [some (.ref 27), none, some (.int v31), some (.int v32), some (.long v33), none, some (.long v34), none, some (.long v35), none, none, none], [.long (v33 / v34)], x30)) rfl (by exact c40) ?_
                        obtain rfl := Option.some.inj hF
                        exact am_Rr.ret (v := some (.long (v33 / v34))) (x := x30) rfl (by trivial) ⟨rfl, rfl⟩
                      · rw [if_neg c40] at hF
                        cases hF
                · rw [if_neg c29] at hF
                  cases hF
            · rw [if_neg h25] at hF
              refine am_Rr.go 2 (σ' := (49, [some (.ref 27), some (.int a), some (.int b), some (.int e), none, none, none, none, none, none, none, none], [.int (-2), .ref 27], x4)) rfl ?_
              cases g43 : G_X8_noLong (-2 : Int32) x4 with
              | none => rw [g43] at hF; cases hF
              | some q_ =>
                obtain ⟨r41, x42⟩ := q_
                rw [g43] at hF
                dsimp only at hF
                refine am_Rr.call (pc := 52) (ls := [some (.ref 27), some (.int a), some (.int b), some (.int e), none, none, none, none, none, none, none, none]) (st := []) rfl (A_X8_noLong (d + 1) g43) ?_
                rintro _ _ ⟨rfl, rfl⟩
                show am_Rr _ _ (52, [some (.ref 27), some (.int a), some (.int b), some (.int e), none, none, none, none, none, none, none, none], [.long r41], x42) _
                obtain rfl := Option.some.inj hF
                exact am_Rr.ret (v := some (.long r41)) (x := x42) rfl (by trivial) ⟨rfl, rfl⟩
        · rw [if_neg h6] at hF
          refine am_Rr.go 2 (σ' := (33, [some (.ref 27), some (.int a), some (.int b), some (.int e), none, none, none, none, none, none, none, none], [.int (-1), .ref 27], x4)) rfl ?_
          cases g46 : G_X8_noLong (-1 : Int32) x4 with
          | none => rw [g46] at hF; cases hF
          | some q_ =>
            obtain ⟨r44, x45⟩ := q_
            rw [g46] at hF
            dsimp only at hF
            refine am_Rr.call (pc := 36) (ls := [some (.ref 27), some (.int a), some (.int b), some (.int e), none, none, none, none, none, none, none, none]) (st := []) rfl (A_X8_noLong (d + 1) g46) ?_
            rintro _ _ ⟨rfl, rfl⟩
            show am_Rr _ _ (36, [some (.ref 27), some (.int a), some (.int b), some (.int e), none, none, none, none, none, none, none, none], [.long r44], x45) _
            obtain rfl := Option.some.inj hF
            exact am_Rr.ret (v := some (.long r44)) (x := x45) rfl (by trivial) ⟨rfl, rfl⟩
    · rw [if_neg h2] at hF
      refine am_Rr.go 2 (σ' := (20, [some (.ref 27), some (.int a), some (.int b), some (.int e), none, none, none, none, none, none, none, none], [.int (-6), .ref 27], x)) rfl ?_
      cases g49 : G_X8_noLong (-6 : Int32) x with
      | none => rw [g49] at hF; cases hF
      | some q_ =>
        obtain ⟨r47, x48⟩ := q_
        rw [g49] at hF
        dsimp only at hF
        refine am_Rr.call (pc := 23) (ls := [some (.ref 27), some (.int a), some (.int b), some (.int e), none, none, none, none, none, none, none, none]) (st := []) rfl (A_X8_noLong (d + 1) g49) ?_
        rintro _ _ ⟨rfl, rfl⟩
        show am_Rr _ _ (23, [some (.ref 27), some (.int a), some (.int b), some (.int e), none, none, none, none, none, none, none, none], [.long r47], x48) _
        obtain rfl := Option.some.inj hF
        exact am_Rr.ret (v := some (.long r47)) (x := x48) rfl (by trivial) ⟨rfl, rfl⟩
  · rw [if_neg h1] at hF
    refine am_Rr.go 2 (σ' := (7, [some (.ref 27), some (.int a), some (.int b), some (.int e), none, none, none, none, none, none, none, none], [.int (-4), .ref 27], x)) rfl ?_
    cases g52 : G_X8_noLong (-4 : Int32) x with
    | none => rw [g52] at hF; cases hF
    | some q_ =>
      obtain ⟨r50, x51⟩ := q_
      rw [g52] at hF
      dsimp only at hF
      refine am_Rr.call (pc := 10) (ls := [some (.ref 27), some (.int a), some (.int b), some (.int e), none, none, none, none, none, none, none, none]) (st := []) rfl (A_X8_noLong (d + 1) g52) ?_
      rintro _ _ ⟨rfl, rfl⟩
      show am_Rr _ _ (10, [some (.ref 27), some (.int a), some (.int b), some (.int e), none, none, none, none, none, none, none, none], [.long r50], x51) _
      obtain rfl := Option.some.inj hF
      exact am_Rr.ret (v := some (.long r50)) (x := x51) rfl (by trivial) ⟨rfl, rfl⟩
noncomputable def L_X8_likeliest_34 : Nat → Int32 → Int32 → am_X → Option (Int32 × Int32 × am_X)
  | 0, _, _, _ => none
  | n + 1, v2, v3, x => (if (36 : Int32) ≤ v3 then some (v2, v3, x) else (if 0 ≤ v3.toInt ∧ v3.toInt < 36 then (if 0 ≤ v2.toInt ∧ v2.toInt < 36 then (if (lg_cmp ((x.2.2.2 43) v3.toNatClampNeg) ((x.2.2.2 43) v2.toNatClampNeg)) ≤ 0 then L_X8_likeliest_34 n v2 (v3 + 1) x else L_X8_likeliest_34 n v3 (v3 + 1) x) else none) else none))
theorem L_X8_likeliest_34_ok (d : Nat) (post : Option Value → am_X → Prop) (w2 : Int32) (w3 : Int32) (y : am_X) : ∀ (n : Nat) (v2 : Int32) (v3 : Int32) (x : am_X), L_X8_likeliest_34 n v2 v3 x = some (w2, w3, y) → am_Rr (d + 4) kX8_likeliest (68, [some (.ref 27), none, some (.int w2), some (.int w3)], [], y) post → am_Rr (d + 4) kX8_likeliest (34, [some (.ref 27), none, some (.int v2), some (.int v3)], [], x) post := by
  intro n
  induction n with
  | zero =>
    intro v2 v3 x hF
    cases hF
  | succ n ih =>
    intro v2 v3 x hF hk
    rw [L_X8_likeliest_34] at hF
    refine am_Rr.go 3 (σ' := (if (36 : Int32) ≤ v3 then 68 else 40, [some (.ref 27), none, some (.int v2), some (.int v3)], [], x)) rfl ?_
    refine am_Rr.ite (fun h6 => ?_) (fun h6 => ?_)
    · rw [if_pos h6] at hF
      cases hF
      exact hk
    · rw [if_neg h6] at hF
      refine am_Rr.go 3 (σ' := (45, [some (.ref 27), none, some (.int v2), some (.int v3)], [.int v3, .ref 43], x)) rfl ?_
      by_cases c7 : 0 ≤ v3.toInt ∧ v3.toInt < 36
      · rw [if_pos c7] at hF
        refine am_Rr.chk (σ' := (46, [some (.ref 27), none, some (.int v2), some (.int v3)], [.long ((x.2.2.2 43) v3.toNatClampNeg)], x)) rfl (by exact vp_in_iff.mpr c7) ?_
        refine am_Rr.go 3 (σ' := (51, [some (.ref 27), none, some (.int v2), some (.int v3)], [.int v2, .ref 43, .long ((x.2.2.2 43) v3.toNatClampNeg)], x)) rfl ?_
        by_cases c8 : 0 ≤ v2.toInt ∧ v2.toInt < 36
        · rw [if_pos c8] at hF
          refine am_Rr.chk (σ' := (52, [some (.ref 27), none, some (.int v2), some (.int v3)], [.long ((x.2.2.2 43) v2.toNatClampNeg), .long ((x.2.2.2 43) v3.toNatClampNeg)], x)) rfl (by exact vp_in_iff.mpr c8) ?_
          refine am_Rr.go 2 (σ' := (if (lg_cmp ((x.2.2.2 43) v3.toNatClampNeg) ((x.2.2.2 43) v2.toNatClampNeg)) ≤ 0 then 60 else 56, [some (.ref 27), none, some (.int v2), some (.int v3)], [], x)) rfl ?_
          refine am_Rr.ite (fun h9 => ?_) (fun h9 => ?_)
          · rw [if_pos h9] at hF
            refine am_Rr.go 4 (σ' := (34, [some (.ref 27), none, some (.int v2), some (.int (v3 + 1))], [], x)) rfl ?_
            exact ih _ _ _ hF hk
          · rw [if_neg h9] at hF
            refine am_Rr.go 5 (σ' := (34, [some (.ref 27), none, some (.int v3), some (.int (v3 + 1))], [], x)) rfl ?_
            exact ih _ _ _ hF hk
        · rw [if_neg c8] at hF
          cases hF
      · rw [if_neg c7] at hF
        cases hF
noncomputable def G_X8_likeliest (a : Int32) (x : am_X) : Option (Int32 × am_X) := (if (0 : Int32) ≤ a then (if a ≤ 20 then (match G_X8_waysOf a x with | none => none | some (r3, x4) => (match L_X8_likeliest_34 1000 (0 : Int32) (1 : Int32) x4 with | none => none | some (v11, v12, x10) => some (v11, x10))) else (match G_X8_no (-6 : Int32) x with | none => none | some (r14, x15) => some (r14, x15))) else (match G_X8_no (-4 : Int32) x with | none => none | some (r17, x18) => some (r17, x18)))
theorem A_X8_likeliest (d : Nat) {a : Int32} {x : am_X} {res : Int32 × am_X} (hF : G_X8_likeliest a x = some res) : am_T (d + 5) mX8_likeliest [.ref 27, .int a] x (fun ro y => ro = some (.int res.1) ∧ res.2 = y) := by
  refine am_T.of rfl ?_
  show am_Rr (d + 4) kX8_likeliest (0, [some (.ref 27), some (.int a), none, none], [], x) _
  unfold G_X8_likeliest at hF
  refine am_Rr.go 2 (σ' := (if (0 : Int32) ≤ a then 11 else 4, [some (.ref 27), some (.int a), none, none], [], x)) rfl ?_
  refine am_Rr.ite (fun h1 => ?_) (fun h1 => ?_)
  · rw [if_pos h1] at hF
    refine am_Rr.go 3 (σ' := (if a ≤ 20 then 24 else 17, [some (.ref 27), some (.int a), none, none], [], x)) rfl ?_
    refine am_Rr.ite (fun h2 => ?_) (fun h2 => ?_)
    · rw [if_pos h2] at hF
      refine am_Rr.go 2 (σ' := (26, [some (.ref 27), some (.int a), none, none], [.int a, .ref 27], x)) rfl ?_
      cases g5 : G_X8_waysOf a x with
      | none => rw [g5] at hF; cases hF
      | some q_ =>
        obtain ⟨r3, x4⟩ := q_
        rw [g5] at hF
        dsimp only at hF
        refine am_Rr.call (pc := 29) (ls := [some (.ref 27), some (.int a), none, none]) (st := []) rfl (A_X8_waysOf d g5) ?_
        rintro _ _ ⟨rfl, rfl⟩
        show am_Rr _ _ (29, [some (.ref 27), some (.int a), none, none], [.long r3], x4) _
        refine am_Rr.go 5 (σ' := (34, [some (.ref 27), some (.int a), some (.int 0), some (.int 1)], [], x4)) rfl ?_
        refine am_Rr.weak (ls0 := [some (.ref 27), none, some (.int 0), some (.int 1)]) (by simp [am_le]) ?_
        cases g13 : L_X8_likeliest_34 1000 (0 : Int32) (1 : Int32) x4 with
        | none => rw [g13] at hF; cases hF
        | some q_ =>
          obtain ⟨v11, v12, x10⟩ := q_
          rw [g13] at hF
          dsimp only at hF
          refine L_X8_likeliest_34_ok d _ v11 v12 x10 _ _ _ _ g13 ?_
          refine am_Rr.go 1 (σ' := (69, [some (.ref 27), none, some (.int v11), some (.int v12)], [.int v11], x10)) rfl ?_
          obtain rfl := Option.some.inj hF
          exact am_Rr.ret (v := some (.int v11)) (x := x10) rfl (by trivial) ⟨rfl, rfl⟩
    · rw [if_neg h2] at hF
      refine am_Rr.go 2 (σ' := (20, [some (.ref 27), some (.int a), none, none], [.int (-6), .ref 27], x)) rfl ?_
      cases g16 : G_X8_no (-6 : Int32) x with
      | none => rw [g16] at hF; cases hF
      | some q_ =>
        obtain ⟨r14, x15⟩ := q_
        rw [g16] at hF
        dsimp only at hF
        refine am_Rr.call (pc := 23) (ls := [some (.ref 27), some (.int a), none, none]) (st := []) rfl (A_X8_no (d + 2) g16) ?_
        rintro _ _ ⟨rfl, rfl⟩
        show am_Rr _ _ (23, [some (.ref 27), some (.int a), none, none], [.int r14], x15) _
        obtain rfl := Option.some.inj hF
        exact am_Rr.ret (v := some (.int r14)) (x := x15) rfl (by trivial) ⟨rfl, rfl⟩
  · rw [if_neg h1] at hF
    refine am_Rr.go 2 (σ' := (7, [some (.ref 27), some (.int a), none, none], [.int (-4), .ref 27], x)) rfl ?_
    cases g19 : G_X8_no (-4 : Int32) x with
    | none => rw [g19] at hF; cases hF
    | some q_ =>
      obtain ⟨r17, x18⟩ := q_
      rw [g19] at hF
      dsimp only at hF
      refine am_Rr.call (pc := 10) (ls := [some (.ref 27), some (.int a), none, none]) (st := []) rfl (A_X8_no (d + 2) g19) ?_
      rintro _ _ ⟨rfl, rfl⟩
      show am_Rr _ _ (10, [some (.ref 27), some (.int a), none, none], [.int r17], x18) _
      obtain rfl := Option.some.inj hF
      exact am_Rr.ret (v := some (.int r17)) (x := x18) rfl (by trivial) ⟨rfl, rfl⟩
noncomputable def L_X8_firstWrong_7 : Nat → Int32 → Int32 → Int32 → am_X → Option (Int32 × am_X)
  | 0, _, _, _, _ => none
  | n + 1, v2, v3, v4, x => (if (x.1 885) ≤ ((2 : Int32) * v4) then some ((-9 : Int32), x) else (if 0 ≤ ((2 : Int32) * v4).toInt ∧ ((2 : Int32) * v4).toInt < 12 then (if 0 ≤ (((2 : Int32) * v4) + 1).toInt ∧ (((2 : Int32) * v4) + 1).toInt < 12 then (match G_X8_walkFrom v2 x with | none => none | some (_, x5) => (if 0 ≤ ((x.2.2.1 42) ((2 : Int32) * v4).toNatClampNeg).toInt ∧ ((x.2.2.1 42) ((2 : Int32) * v4).toNatClampNeg).toInt < 36 then (if ((x5.2.2.1 38) ((x.2.2.1 42) ((2 : Int32) * v4).toNatClampNeg).toNatClampNeg) = 100000 then some (v4, x5) else (if (((x5.2.2.1 38) ((x.2.2.1 42) ((2 : Int32) * v4).toNatClampNeg).toNatClampNeg) * ((x5.2.2.1 29) 1)) ≤ (((x.2.2.1 42) (((2 : Int32) * v4) + 1).toNatClampNeg) - v3) then L_X8_firstWrong_7 n ((x.2.2.1 42) ((2 : Int32) * v4).toNatClampNeg) ((x.2.2.1 42) (((2 : Int32) * v4) + 1).toNatClampNeg) (v4 + 1) x5 else some (v4, x5))) else none)) else none) else none))
theorem L_X8_firstWrong_7_ok (d : Nat) (res : Int32 × am_X) : ∀ (n : Nat) (v2 : Int32) (v3 : Int32) (v4 : Int32) (x : am_X), L_X8_firstWrong_7 n v2 v3 v4 x = some res → am_Rr (d + 4) kX8_firstWrong (7, [some (.ref 27), none, some (.int v2), some (.int v3), some (.int v4), none, none], [], x) (fun ro y => ro = some (.int res.1) ∧ res.2 = y) := by
  intro n
  induction n with
  | zero =>
    intro v2 v3 v4 x hF
    cases hF
  | succ n ih =>
    intro v2 v3 v4 x hF
    rw [L_X8_firstWrong_7] at hF
    refine am_Rr.go 6 (σ' := (if (x.1 885) ≤ ((2 : Int32) * v4) then 95 else 18, [some (.ref 27), none, some (.int v2), some (.int v3), some (.int v4), none, none], [], x)) rfl ?_
    refine am_Rr.ite (fun h1 => ?_) (fun h1 => ?_)
    · rw [if_pos h1] at hF
      refine am_Rr.go 1 (σ' := (97, [some (.ref 27), none, some (.int v2), some (.int v3), some (.int v4), none, none], [.int (-9)], x)) rfl ?_
      obtain rfl := Option.some.inj hF
      exact am_Rr.ret (v := some (.int (-9))) (x := x) rfl (by trivial) ⟨rfl, rfl⟩
    · rw [if_neg h1] at hF
      refine am_Rr.go 5 (σ' := (26, [some (.ref 27), none, some (.int v2), some (.int v3), some (.int v4), none, none], [.int ((2 : Int32) * v4), .ref 42], x)) rfl ?_
      by_cases c2 : 0 ≤ ((2 : Int32) * v4).toInt ∧ ((2 : Int32) * v4).toInt < 12
      · rw [if_pos c2] at hF
        refine am_Rr.chk (σ' := (27, [some (.ref 27), none, some (.int v2), some (.int v3), some (.int v4), none, none], [.int ((x.2.2.1 42) ((2 : Int32) * v4).toNatClampNeg)], x)) rfl (by exact vp_in_iff.mpr c2) ?_
        refine am_Rr.go 8 (σ' := (39, [some (.ref 27), none, some (.int v2), some (.int v3), some (.int v4), some (.int ((x.2.2.1 42) ((2 : Int32) * v4).toNatClampNeg)), none], [.int (((2 : Int32) * v4) + 1), .ref 42], x)) rfl ?_
        by_cases c3 : 0 ≤ (((2 : Int32) * v4) + 1).toInt ∧ (((2 : Int32) * v4) + 1).toInt < 12
        · rw [if_pos c3] at hF
          refine am_Rr.chk (σ' := (40, [some (.ref 27), none, some (.int v2), some (.int v3), some (.int v4), some (.int ((x.2.2.1 42) ((2 : Int32) * v4).toNatClampNeg)), none], [.int ((x.2.2.1 42) (((2 : Int32) * v4) + 1).toNatClampNeg)], x)) rfl (by exact vp_in_iff.mpr c3) ?_
          refine am_Rr.go 3 (σ' := (44, [some (.ref 27), none, some (.int v2), some (.int v3), some (.int v4), some (.int ((x.2.2.1 42) ((2 : Int32) * v4).toNatClampNeg)), some (.int ((x.2.2.1 42) (((2 : Int32) * v4) + 1).toNatClampNeg))], [.int v2, .ref 27], x)) rfl ?_
          cases g6 : G_X8_walkFrom v2 x with
          | none => rw [g6] at hF; cases hF
          | some q_ =>
            obtain ⟨u_, x5⟩ := q_
            rw [g6] at hF
            dsimp only at hF
            refine am_Rr.call (pc := 47) (ls := [some (.ref 27), none, some (.int v2), some (.int v3), some (.int v4), some (.int ((x.2.2.1 42) ((2 : Int32) * v4).toNatClampNeg)), some (.int ((x.2.2.1 42) (((2 : Int32) * v4) + 1).toNatClampNeg))]) (st := []) rfl (A_X8_walkFrom d g6) ?_
            rintro _ _ ⟨rfl, rfl⟩
            show am_Rr _ _ (47, [some (.ref 27), none, some (.int v2), some (.int v3), some (.int v4), some (.int ((x.2.2.1 42) ((2 : Int32) * v4).toNatClampNeg)), some (.int ((x.2.2.1 42) (((2 : Int32) * v4) + 1).toNatClampNeg))], [], x5) _
            refine am_Rr.go 3 (σ' := (53, [some (.ref 27), none, some (.int v2), some (.int v3), some (.int v4), some (.int ((x.2.2.1 42) ((2 : Int32) * v4).toNatClampNeg)), some (.int ((x.2.2.1 42) (((2 : Int32) * v4) + 1).toNatClampNeg))], [.int ((x.2.2.1 42) ((2 : Int32) * v4).toNatClampNeg), .ref 38], x5)) rfl ?_
            by_cases c7 : 0 ≤ ((x.2.2.1 42) ((2 : Int32) * v4).toNatClampNeg).toInt ∧ ((x.2.2.1 42) ((2 : Int32) * v4).toNatClampNeg).toInt < 36
            · rw [if_pos c7] at hF
              refine am_Rr.chk (σ' := (54, [some (.ref 27), none, some (.int v2), some (.int v3), some (.int v4), some (.int ((x.2.2.1 42) ((2 : Int32) * v4).toNatClampNeg)), some (.int ((x.2.2.1 42) (((2 : Int32) * v4) + 1).toNatClampNeg))], [.int ((x5.2.2.1 38) ((x.2.2.1 42) ((2 : Int32) * v4).toNatClampNeg).toNatClampNeg)], x5)) rfl (by exact vp_in_iff.mpr c7) ?_
              refine am_Rr.go 2 (σ' := (if ((x5.2.2.1 38) ((x.2.2.1 42) ((2 : Int32) * v4).toNatClampNeg).toNatClampNeg) = 100000 then 80 else 59, [some (.ref 27), none, some (.int v2), some (.int v3), some (.int v4), some (.int ((x.2.2.1 42) ((2 : Int32) * v4).toNatClampNeg)), some (.int ((x.2.2.1 42) (((2 : Int32) * v4) + 1).toNatClampNeg))], [], x5)) rfl ?_
              refine am_Rr.ite (fun h8 => ?_) (fun h8 => ?_)
              · rw [if_pos h8] at hF
                refine am_Rr.go 1 (σ' := (82, [some (.ref 27), none, some (.int v2), some (.int v3), some (.int v4), some (.int ((x.2.2.1 42) ((2 : Int32) * v4).toNatClampNeg)), some (.int ((x.2.2.1 42) (((2 : Int32) * v4) + 1).toNatClampNeg))], [.int v4], x5)) rfl ?_
                obtain rfl := Option.some.inj hF
                exact am_Rr.ret (v := some (.int v4)) (x := x5) rfl (by trivial) ⟨rfl, rfl⟩
              · rw [if_neg h8] at hF
                refine am_Rr.go 3 (σ' := (65, [some (.ref 27), none, some (.int v2), some (.int v3), some (.int v4), some (.int ((x.2.2.1 42) ((2 : Int32) * v4).toNatClampNeg)), some (.int ((x.2.2.1 42) (((2 : Int32) * v4) + 1).toNatClampNeg))], [.int ((x.2.2.1 42) ((2 : Int32) * v4).toNatClampNeg), .ref 38], x5)) rfl ?_
                refine am_Rr.chk (σ' := (66, [some (.ref 27), none, some (.int v2), some (.int v3), some (.int v4), some (.int ((x.2.2.1 42) ((2 : Int32) * v4).toNatClampNeg)), some (.int ((x.2.2.1 42) (((2 : Int32) * v4) + 1).toNatClampNeg))], [.int ((x5.2.2.1 38) ((x.2.2.1 42) ((2 : Int32) * v4).toNatClampNeg).toNatClampNeg)], x5)) rfl (by exact vp_in_iff.mpr c7) ?_
                refine am_Rr.go 3 (σ' := (71, [some (.ref 27), none, some (.int v2), some (.int v3), some (.int v4), some (.int ((x.2.2.1 42) ((2 : Int32) * v4).toNatClampNeg)), some (.int ((x.2.2.1 42) (((2 : Int32) * v4) + 1).toNatClampNeg))], [.int 1, .ref 29, .int ((x5.2.2.1 38) ((x.2.2.1 42) ((2 : Int32) * v4).toNatClampNeg).toNatClampNeg)], x5)) rfl ?_
                refine am_Rr.chk (σ' := (72, [some (.ref 27), none, some (.int v2), some (.int v3), some (.int v4), some (.int ((x.2.2.1 42) ((2 : Int32) * v4).toNatClampNeg)), some (.int ((x.2.2.1 42) (((2 : Int32) * v4) + 1).toNatClampNeg))], [.int ((x5.2.2.1 29) 1), .int ((x5.2.2.1 38) ((x.2.2.1 42) ((2 : Int32) * v4).toNatClampNeg).toNatClampNeg)], x5)) rfl (by unfold vp_in; decide) ?_
                refine am_Rr.go 5 (σ' := (if (((x5.2.2.1 38) ((x.2.2.1 42) ((2 : Int32) * v4).toNatClampNeg).toNatClampNeg) * ((x5.2.2.1 29) 1)) ≤ (((x.2.2.1 42) (((2 : Int32) * v4) + 1).toNatClampNeg) - v3) then 83 else 80, [some (.ref 27), none, some (.int v2), some (.int v3), some (.int v4), some (.int ((x.2.2.1 42) ((2 : Int32) * v4).toNatClampNeg)), some (.int ((x.2.2.1 42) (((2 : Int32) * v4) + 1).toNatClampNeg))], [], x5)) rfl ?_
                refine am_Rr.ite (fun h9 => ?_) (fun h9 => ?_)
                · rw [if_pos h9] at hF
                  refine am_Rr.go 6 (σ' := (7, [some (.ref 27), none, some (.int ((x.2.2.1 42) ((2 : Int32) * v4).toNatClampNeg)), some (.int ((x.2.2.1 42) (((2 : Int32) * v4) + 1).toNatClampNeg)), some (.int (v4 + 1)), some (.int ((x.2.2.1 42) ((2 : Int32) * v4).toNatClampNeg)), some (.int ((x.2.2.1 42) (((2 : Int32) * v4) + 1).toNatClampNeg))], [], x5)) rfl ?_
                  refine am_Rr.weak (ls0 := [some (.ref 27), none, some (.int ((x.2.2.1 42) ((2 : Int32) * v4).toNatClampNeg)), some (.int ((x.2.2.1 42) (((2 : Int32) * v4) + 1).toNatClampNeg)), some (.int (v4 + 1)), none, none]) (by simp [am_le]) ?_
                  exact ih _ _ _ _ hF
                · rw [if_neg h9] at hF
                  refine am_Rr.go 1 (σ' := (82, [some (.ref 27), none, some (.int v2), some (.int v3), some (.int v4), some (.int ((x.2.2.1 42) ((2 : Int32) * v4).toNatClampNeg)), some (.int ((x.2.2.1 42) (((2 : Int32) * v4) + 1).toNatClampNeg))], [.int v4], x5)) rfl ?_
                  obtain rfl := Option.some.inj hF
                  exact am_Rr.ret (v := some (.int v4)) (x := x5) rfl (by trivial) ⟨rfl, rfl⟩
            · rw [if_neg c7] at hF
              cases hF
        · rw [if_neg c3] at hF
          cases hF
      · rw [if_neg c2] at hF
        cases hF
noncomputable def G_X8_firstWrong (a : Int32) (x : am_X) : Option (Int32 × am_X) := L_X8_firstWrong_7 1000 a (0 : Int32) (0 : Int32) x
theorem A_X8_firstWrong (d : Nat) {a : Int32} {x : am_X} {res : Int32 × am_X} (hF : G_X8_firstWrong a x = some res) : am_T (d + 5) mX8_firstWrong [.ref 27, .int a] x (fun ro y => ro = some (.int res.1) ∧ res.2 = y) := by
  refine am_T.of rfl ?_
  show am_Rr (d + 4) kX8_firstWrong (0, [some (.ref 27), some (.int a), none, none, none, none, none], [], x) _
  unfold G_X8_firstWrong at hF
  refine am_Rr.go 6 (σ' := (7, [some (.ref 27), some (.int a), some (.int a), some (.int 0), some (.int 0), none, none], [], x)) rfl ?_
  refine am_Rr.weak (ls0 := [some (.ref 27), none, some (.int a), some (.int 0), some (.int 0), none, none]) (by simp [am_le]) ?_
  exact L_X8_firstWrong_7_ok d res _ _ _ _ _ hF
noncomputable def G_X8_mayBe (a : Int32) (b : Int32) (x : am_X) : Option (Int32 × am_X) := (if a < 0 then (match G_X8_no (-4 : Int32) x with | none => none | some (r2, x3) => some (r2, x3)) else (if (-1 : Int32) ≤ b then (if a ≤ 999 then (if b < 36 then (match G_X8_mayBeAt a x with | none => none | some (_, x9) => (if b = (-1) then (match G_X8_inSet  x9 with | none => none | some (r12, x13) => some (r12, x13)) else (if 0 ≤ b.toInt ∧ b.toInt < 36 then (if ((x9.2.2.1 39) b.toNatClampNeg) = 0 then some ((0 : Int32), x9) else some ((1 : Int32), x9)) else none))) else (match G_X8_no (-1 : Int32) x with | none => none | some (r17, x18) => some (r17, x18))) else (match G_X8_no (-6 : Int32) x with | none => none | some (r20, x21) => some (r20, x21))) else (match G_X8_no (-4 : Int32) x with | none => none | some (r23, x24) => some (r23, x24))))
theorem A_X8_mayBe (d : Nat) {a : Int32} {b : Int32} {x : am_X} {res : Int32 × am_X} (hF : G_X8_mayBe a b x = some res) : am_T (d + 6) mX8_mayBe [.ref 27, .int a, .int b] x (fun ro y => ro = some (.int res.1) ∧ res.2 = y) := by
  refine am_T.of rfl ?_
  show am_Rr (d + 5) kX8_mayBe (0, [some (.ref 27), some (.int a), some (.int b)], [], x) _
  unfold G_X8_mayBe at hF
  refine am_Rr.go 2 (σ' := (if a < 0 then 9 else 4, [some (.ref 27), some (.int a), some (.int b)], [], x)) rfl ?_
  refine am_Rr.ite (fun h1 => ?_) (fun h1 => ?_)
  · rw [if_pos h1] at hF
    refine am_Rr.go 2 (σ' := (12, [some (.ref 27), some (.int a), some (.int b)], [.int (-4), .ref 27], x)) rfl ?_
    cases g4 : G_X8_no (-4 : Int32) x with
    | none => rw [g4] at hF; cases hF
    | some q_ =>
      obtain ⟨r2, x3⟩ := q_
      rw [g4] at hF
      dsimp only at hF
      refine am_Rr.call (pc := 15) (ls := [some (.ref 27), some (.int a), some (.int b)]) (st := []) rfl (A_X8_no (d + 3) g4) ?_
      rintro _ _ ⟨rfl, rfl⟩
      show am_Rr _ _ (15, [some (.ref 27), some (.int a), some (.int b)], [.int r2], x3) _
      obtain rfl := Option.some.inj hF
      exact am_Rr.ret (v := some (.int r2)) (x := x3) rfl (by trivial) ⟨rfl, rfl⟩
  · rw [if_neg h1] at hF
    refine am_Rr.go 3 (σ' := (if (-1 : Int32) ≤ b then 16 else 9, [some (.ref 27), some (.int a), some (.int b)], [], x)) rfl ?_
    refine am_Rr.ite (fun h5 => ?_) (fun h5 => ?_)
    · rw [if_pos h5] at hF
      refine am_Rr.go 3 (σ' := (if a ≤ 999 then 30 else 23, [some (.ref 27), some (.int a), some (.int b)], [], x)) rfl ?_
      refine am_Rr.ite (fun h6 => ?_) (fun h6 => ?_)
      · rw [if_pos h6] at hF
        refine am_Rr.go 3 (σ' := (if b < 36 then 42 else 36, [some (.ref 27), some (.int a), some (.int b)], [], x)) rfl ?_
        refine am_Rr.ite (fun h7 => ?_) (fun h7 => ?_)
        · rw [if_pos h7] at hF
          refine am_Rr.go 2 (σ' := (44, [some (.ref 27), some (.int a), some (.int b)], [.int a, .ref 27], x)) rfl ?_
          cases g10 : G_X8_mayBeAt a x with
          | none => rw [g10] at hF; cases hF
          | some q_ =>
            obtain ⟨u_, x9⟩ := q_
            rw [g10] at hF
            dsimp only at hF
            refine am_Rr.call (pc := 47) (ls := [some (.ref 27), some (.int a), some (.int b)]) (st := []) rfl (A_X8_mayBeAt d g10) ?_
            rintro _ _ ⟨rfl, rfl⟩
            show am_Rr _ _ (47, [some (.ref 27), some (.int a), some (.int b)], [], x9) _
            refine am_Rr.go 3 (σ' := (if b = (-1) then 52 else 59, [some (.ref 27), some (.int a), some (.int b)], [], x9)) rfl ?_
            refine am_Rr.ite (fun h11 => ?_) (fun h11 => ?_)
            · rw [if_pos h11] at hF
              refine am_Rr.go 1 (σ' := (53, [some (.ref 27), some (.int a), some (.int b)], [.ref 27], x9)) rfl ?_
              cases g14 : G_X8_inSet  x9 with
              | none => rw [g14] at hF; cases hF
              | some q_ =>
                obtain ⟨r12, x13⟩ := q_
                rw [g14] at hF
                dsimp only at hF
                refine am_Rr.call (pc := 56) (ls := [some (.ref 27), some (.int a), some (.int b)]) (st := []) rfl (A_X8_inSet (d + 3) g14) ?_
                rintro _ _ ⟨rfl, rfl⟩
                show am_Rr _ _ (56, [some (.ref 27), some (.int a), some (.int b)], [.int r12], x13) _
                refine am_Rr.go 1 (σ' := (73, [some (.ref 27), some (.int a), some (.int b)], [.int r12], x13)) rfl ?_
                obtain rfl := Option.some.inj hF
                exact am_Rr.ret (v := some (.int r12)) (x := x13) rfl (by trivial) ⟨rfl, rfl⟩
            · rw [if_neg h11] at hF
              refine am_Rr.go 3 (σ' := (64, [some (.ref 27), some (.int a), some (.int b)], [.int b, .ref 39], x9)) rfl ?_
              by_cases c15 : 0 ≤ b.toInt ∧ b.toInt < 36
              · rw [if_pos c15] at hF
                refine am_Rr.chk (σ' := (65, [some (.ref 27), some (.int a), some (.int b)], [.int ((x9.2.2.1 39) b.toNatClampNeg)], x9)) rfl (by exact vp_in_iff.mpr c15) ?_
                refine am_Rr.go 1 (σ' := (if ((x9.2.2.1 39) b.toNatClampNeg) = 0 then 72 else 68, [some (.ref 27), some (.int a), some (.int b)], [], x9)) rfl ?_
                refine am_Rr.ite (fun h16 => ?_) (fun h16 => ?_)
                · rw [if_pos h16] at hF
                  refine am_Rr.go 1 (σ' := (73, [some (.ref 27), some (.int a), some (.int b)], [.int 0], x9)) rfl ?_
                  obtain rfl := Option.some.inj hF
                  exact am_Rr.ret (v := some (.int 0)) (x := x9) rfl (by trivial) ⟨rfl, rfl⟩
                · rw [if_neg h16] at hF
                  refine am_Rr.go 2 (σ' := (73, [some (.ref 27), some (.int a), some (.int b)], [.int 1], x9)) rfl ?_
                  obtain rfl := Option.some.inj hF
                  exact am_Rr.ret (v := some (.int 1)) (x := x9) rfl (by trivial) ⟨rfl, rfl⟩
              · rw [if_neg c15] at hF
                cases hF
        · rw [if_neg h7] at hF
          refine am_Rr.go 2 (σ' := (38, [some (.ref 27), some (.int a), some (.int b)], [.int (-1), .ref 27], x)) rfl ?_
          cases g19 : G_X8_no (-1 : Int32) x with
          | none => rw [g19] at hF; cases hF
          | some q_ =>
            obtain ⟨r17, x18⟩ := q_
            rw [g19] at hF
            dsimp only at hF
            refine am_Rr.call (pc := 41) (ls := [some (.ref 27), some (.int a), some (.int b)]) (st := []) rfl (A_X8_no (d + 3) g19) ?_
            rintro _ _ ⟨rfl, rfl⟩
            show am_Rr _ _ (41, [some (.ref 27), some (.int a), some (.int b)], [.int r17], x18) _
            obtain rfl := Option.some.inj hF
            exact am_Rr.ret (v := some (.int r17)) (x := x18) rfl (by trivial) ⟨rfl, rfl⟩
      · rw [if_neg h6] at hF
        refine am_Rr.go 2 (σ' := (26, [some (.ref 27), some (.int a), some (.int b)], [.int (-6), .ref 27], x)) rfl ?_
        cases g22 : G_X8_no (-6 : Int32) x with
        | none => rw [g22] at hF; cases hF
        | some q_ =>
          obtain ⟨r20, x21⟩ := q_
          rw [g22] at hF
          dsimp only at hF
          refine am_Rr.call (pc := 29) (ls := [some (.ref 27), some (.int a), some (.int b)]) (st := []) rfl (A_X8_no (d + 3) g22) ?_
          rintro _ _ ⟨rfl, rfl⟩
          show am_Rr _ _ (29, [some (.ref 27), some (.int a), some (.int b)], [.int r20], x21) _
          obtain rfl := Option.some.inj hF
          exact am_Rr.ret (v := some (.int r20)) (x := x21) rfl (by trivial) ⟨rfl, rfl⟩
    · rw [if_neg h5] at hF
      refine am_Rr.go 2 (σ' := (12, [some (.ref 27), some (.int a), some (.int b)], [.int (-4), .ref 27], x)) rfl ?_
      cases g25 : G_X8_no (-4 : Int32) x with
      | none => rw [g25] at hF; cases hF
      | some q_ =>
        obtain ⟨r23, x24⟩ := q_
        rw [g25] at hF
        dsimp only at hF
        refine am_Rr.call (pc := 15) (ls := [some (.ref 27), some (.int a), some (.int b)]) (st := []) rfl (A_X8_no (d + 3) g25) ?_
        rintro _ _ ⟨rfl, rfl⟩
        show am_Rr _ _ (15, [some (.ref 27), some (.int a), some (.int b)], [.int r23], x24) _
        obtain rfl := Option.some.inj hF
        exact am_Rr.ret (v := some (.int r23)) (x := x24) rfl (by trivial) ⟨rfl, rfl⟩
