noncomputable def L_X8_takes_115 : Nat → Int32 → am_X → Option (Int32 × am_X)
  | 0, _, _ => none
  | n + 1, v1, x => (if ((x.2.2.1 35) 2) < v1 then some (v1, x) else (if 0 ≤ ((20 : Int32) + v1).toInt ∧ ((20 : Int32) + v1).toInt < 56 then L_X8_takes_115 n (v1 + 1) (am_sA x 29 (upd (x.2.2.1 29) (((20 : Int32) + v1).toNatClampNeg) ((x.2.2.1 35) 0))) else none))
theorem L_X8_takes_115_ok (d : Nat) (post : Option Value → am_X → Prop) (w1 : Int32) (y : am_X) : ∀ (n : Nat) (v1 : Int32) (x : am_X), L_X8_takes_115 n v1 x = some (w1, y) → am_Rr (d + 2) kX8_takes (146, [some (.ref 27), some (.int w1)], [], y) post → am_Rr (d + 2) kX8_takes (115, [some (.ref 27), some (.int v1)], [], x) post := by
  intro n
  induction n with
  | zero =>
    intro v1 x hF
    cases hF
  | succ n ih =>
    intro v1 x hF hk
    rw [L_X8_takes_115] at hF
    refine am_Rr.go 4 (σ' := (121, [some (.ref 27), some (.int v1)], [.int 2, .ref 35, .int v1], x)) rfl ?_
    refine am_Rr.chk (σ' := (122, [some (.ref 27), some (.int v1)], [.int ((x.2.2.1 35) 2), .int v1], x)) rfl (by unfold vp_in; decide) ?_
    refine am_Rr.go 1 (σ' := (if ((x.2.2.1 35) 2) < v1 then 146 else 125, [some (.ref 27), some (.int v1)], [], x)) rfl ?_
    refine am_Rr.ite (fun h6 => ?_) (fun h6 => ?_)
    · rw [if_pos h6] at hF
      cases hF
      exact hk
    · rw [if_neg h6] at hF
      refine am_Rr.go 8 (σ' := (138, [some (.ref 27), some (.int v1)], [.int 0, .ref 35, .int ((20 : Int32) + v1), .ref 29], x)) rfl ?_
      refine am_Rr.chk (σ' := (139, [some (.ref 27), some (.int v1)], [.int ((x.2.2.1 35) 0), .int ((20 : Int32) + v1), .ref 29], x)) rfl (by unfold vp_in; decide) ?_
      by_cases c7 : 0 ≤ ((20 : Int32) + v1).toInt ∧ ((20 : Int32) + v1).toInt < 56
      · rw [if_pos c7] at hF
        refine am_Rr.chk (σ' := (140, [some (.ref 27), some (.int v1)], [], (am_sA x 29 (upd (x.2.2.1 29) (((20 : Int32) + v1).toNatClampNeg) ((x.2.2.1 35) 0))))) rfl (by exact vp_in_iff.mpr c7) ?_
        refine am_Rr.go 2 (σ' := (115, [some (.ref 27), some (.int (v1 + 1))], [], (am_sA x 29 (upd (x.2.2.1 29) (((20 : Int32) + v1).toNatClampNeg) ((x.2.2.1 35) 0))))) rfl ?_
        exact ih _ _ hF hk
      · rw [if_neg c7] at hF
        cases hF
noncomputable def G_X8_takes  (x : am_X) : Option (Int32 × am_X) := (if (x.1 875) = 0 then (if (36 : Int32) ≤ ((x.2.2.1 35) 2) then some ((0 : Int32), x) else (if ((x.2.2.1 35) 2) < ((x.2.2.1 35) 1) then some ((0 : Int32), x) else (if ((x.2.2.1 35) 0) = 1 then (if ((x.2.2.1 29) 0) < ((x.2.2.1 35) 1) then (match L_X8_takes_115 1000 ((x.2.2.1 35) 1) x with | none => none | some (v9, x8) => some ((1 : Int32), x8)) else (if ((x.2.2.1 35) 2) < ((x.2.2.1 29) 0) then (match L_X8_takes_115 1000 ((x.2.2.1 35) 1) x with | none => none | some (v13, x12) => some ((1 : Int32), x12)) else some ((0 : Int32), x))) else (match L_X8_takes_115 1000 ((x.2.2.1 35) 1) x with | none => none | some (v16, x15) => some ((1 : Int32), x15))))) else (if (x.1 875) = 1 then (if (36 : Int32) ≤ ((x.2.2.1 35) 2) then some ((0 : Int32), x) else (if ((x.2.2.1 35) 2) < ((x.2.2.1 35) 1) then some ((0 : Int32), x) else (if ((x.2.2.1 35) 0) = 1 then (if ((x.2.2.1 29) 0) < ((x.2.2.1 35) 1) then (match L_X8_takes_115 1000 ((x.2.2.1 35) 1) x with | none => none | some (v24, x23) => some ((1 : Int32), x23)) else (if ((x.2.2.1 35) 2) < ((x.2.2.1 29) 0) then (match L_X8_takes_115 1000 ((x.2.2.1 35) 1) x with | none => none | some (v28, x27) => some ((1 : Int32), x27)) else some ((0 : Int32), x))) else (match L_X8_takes_115 1000 ((x.2.2.1 35) 1) x with | none => none | some (v31, x30) => some ((1 : Int32), x30))))) else (if (x.1 875) = 2 then (if (36 : Int32) ≤ ((x.2.2.1 35) 0) then some ((0 : Int32), (am_sA x 29 (upd (x.2.2.1 29) 0 ((x.2.2.1 35) 0)))) else (match G_X8_kindOf ((x.2.2.1 35) 0) (am_sA x 29 (upd (x.2.2.1 29) 0 ((x.2.2.1 35) 0))) with | none => none | some (r35, x36) => (if r35 = 1 then some ((0 : Int32), x36) else some ((1 : Int32), x36)))) else (if (x.1 875) = 3 then (if ((x.2.2.1 35) 0) ≤ 0 then some ((0 : Int32), (am_sA x 29 (upd (x.2.2.1 29) 1 ((x.2.2.1 35) 0)))) else some ((1 : Int32), (am_sA x 29 (upd (x.2.2.1 29) 1 ((x.2.2.1 35) 0))))) else (if (x.1 875) = 4 then some ((1 : Int32), (am_sA x 29 (upd (x.2.2.1 29) 2 ((x.2.2.1 35) 0)))) else (if (36 : Int32) ≤ ((x.2.2.1 35) 1) then some ((0 : Int32), x) else (if ((x.2.2.1 29) 3) = 3 then some ((0 : Int32), x) else (if 0 ≤ ((10 : Int32) + ((2 : Int32) * ((x.2.2.1 29) 3))).toInt ∧ ((10 : Int32) + ((2 : Int32) * ((x.2.2.1 29) 3))).toInt < 56 then (if 0 ≤ (((10 : Int32) + ((2 : Int32) * ((upd (x.2.2.1 29) (((10 : Int32) + ((2 : Int32) * ((x.2.2.1 29) 3))).toNatClampNeg) ((x.2.2.1 35) 0)) 3))) + 1).toInt ∧ (((10 : Int32) + ((2 : Int32) * ((upd (x.2.2.1 29) (((10 : Int32) + ((2 : Int32) * ((x.2.2.1 29) 3))).toNatClampNeg) ((x.2.2.1 35) 0)) 3))) + 1).toInt < 56 then some ((1 : Int32), (am_sA (am_sA (am_sA x 29 (upd (x.2.2.1 29) (((10 : Int32) + ((2 : Int32) * ((x.2.2.1 29) 3))).toNatClampNeg) ((x.2.2.1 35) 0))) 29 (upd (upd (x.2.2.1 29) (((10 : Int32) + ((2 : Int32) * ((x.2.2.1 29) 3))).toNatClampNeg) ((x.2.2.1 35) 0)) ((((10 : Int32) + ((2 : Int32) * ((upd (x.2.2.1 29) (((10 : Int32) + ((2 : Int32) * ((x.2.2.1 29) 3))).toNatClampNeg) ((x.2.2.1 35) 0)) 3))) + 1).toNatClampNeg) ((x.2.2.1 35) 1))) 29 (upd (upd (upd (x.2.2.1 29) (((10 : Int32) + ((2 : Int32) * ((x.2.2.1 29) 3))).toNatClampNeg) ((x.2.2.1 35) 0)) ((((10 : Int32) + ((2 : Int32) * ((upd (x.2.2.1 29) (((10 : Int32) + ((2 : Int32) * ((x.2.2.1 29) 3))).toNatClampNeg) ((x.2.2.1 35) 0)) 3))) + 1).toNatClampNeg) ((x.2.2.1 35) 1)) 3 (((upd (upd (x.2.2.1 29) (((10 : Int32) + ((2 : Int32) * ((x.2.2.1 29) 3))).toNatClampNeg) ((x.2.2.1 35) 0)) ((((10 : Int32) + ((2 : Int32) * ((upd (x.2.2.1 29) (((10 : Int32) + ((2 : Int32) * ((x.2.2.1 29) 3))).toNatClampNeg) ((x.2.2.1 35) 0)) 3))) + 1).toNatClampNeg) ((x.2.2.1 35) 1)) 3) + 1)))) else none) else none))))))))
theorem A_X8_takes (d : Nat)  {x : am_X} {res : Int32 × am_X} (hF : G_X8_takes  x = some res) : am_T (d + 3) mX8_takes [.ref 27] x (fun ro y => ro = some (.int res.1) ∧ res.2 = y) := by
  refine am_T.of rfl ?_
  show am_Rr (d + 2) kX8_takes (0, [some (.ref 27), none], [], x) _
  unfold G_X8_takes at hF
  refine am_Rr.go 3 (σ' := ((if (x.1 875) = 0 then 40 else (if (x.1 875) = 1 then 40 else (if (x.1 875) = 2 then 148 else (if (x.1 875) = 3 then 191 else (if (x.1 875) = 4 then 218 else 232))))), [some (.ref 27), none], [], x)) rfl ?_
  refine am_Rr.ite (fun h1 => ?_) (fun h1 => ?_)
  · rw [if_pos h1] at hF
    refine am_Rr.go 3 (σ' := (45, [some (.ref 27), none], [.int 2, .ref 35], x)) rfl ?_
    refine am_Rr.chk (σ' := (46, [some (.ref 27), none], [.int ((x.2.2.1 35) 2)], x)) rfl (by unfold vp_in; decide) ?_
    refine am_Rr.go 2 (σ' := (if (36 : Int32) ≤ ((x.2.2.1 35) 2) then 106 else 51, [some (.ref 27), none], [], x)) rfl ?_
    refine am_Rr.ite (fun h2 => ?_) (fun h2 => ?_)
    · rw [if_pos h2] at hF
      refine am_Rr.go 1 (σ' := (107, [some (.ref 27), none], [.int 0], x)) rfl ?_
      obtain rfl := Option.some.inj hF
      exact am_Rr.ret (v := some (.int 0)) (x := x) rfl (by first | exact Or.inl rfl | exact Or.inr rfl | assumption) ⟨rfl, rfl⟩
    · rw [if_neg h2] at hF
      refine am_Rr.go 3 (σ' := (56, [some (.ref 27), none], [.int 1, .ref 35], x)) rfl ?_
      refine am_Rr.chk (σ' := (57, [some (.ref 27), none], [.int ((x.2.2.1 35) 1)], x)) rfl (by unfold vp_in; decide) ?_
      refine am_Rr.go 3 (σ' := (62, [some (.ref 27), none], [.int 2, .ref 35, .int ((x.2.2.1 35) 1)], x)) rfl ?_
      refine am_Rr.chk (σ' := (63, [some (.ref 27), none], [.int ((x.2.2.1 35) 2), .int ((x.2.2.1 35) 1)], x)) rfl (by unfold vp_in; decide) ?_
      refine am_Rr.go 1 (σ' := (if ((x.2.2.1 35) 2) < ((x.2.2.1 35) 1) then 106 else 66, [some (.ref 27), none], [], x)) rfl ?_
      refine am_Rr.ite (fun h3 => ?_) (fun h3 => ?_)
      · rw [if_pos h3] at hF
        refine am_Rr.go 1 (σ' := (107, [some (.ref 27), none], [.int 0], x)) rfl ?_
        obtain rfl := Option.some.inj hF
        exact am_Rr.ret (v := some (.int 0)) (x := x) rfl (by first | exact Or.inl rfl | exact Or.inr rfl | assumption) ⟨rfl, rfl⟩
      · rw [if_neg h3] at hF
        refine am_Rr.go 3 (σ' := (71, [some (.ref 27), none], [.int 0, .ref 35], x)) rfl ?_
        refine am_Rr.chk (σ' := (72, [some (.ref 27), none], [.int ((x.2.2.1 35) 0)], x)) rfl (by unfold vp_in; decide) ?_
        refine am_Rr.go 2 (σ' := (if ((x.2.2.1 35) 0) = 1 then 76 else 108, [some (.ref 27), none], [], x)) rfl ?_
        refine am_Rr.ite (fun h4 => ?_) (fun h4 => ?_)
        · rw [if_pos h4] at hF
          refine am_Rr.go 3 (σ' := (81, [some (.ref 27), none], [.int 1, .ref 35], x)) rfl ?_
          refine am_Rr.chk (σ' := (82, [some (.ref 27), none], [.int ((x.2.2.1 35) 1)], x)) rfl (by unfold vp_in; decide) ?_
          refine am_Rr.go 3 (σ' := (87, [some (.ref 27), none], [.int 0, .ref 29, .int ((x.2.2.1 35) 1)], x)) rfl ?_
          refine am_Rr.chk (σ' := (88, [some (.ref 27), none], [.int ((x.2.2.1 29) 0), .int ((x.2.2.1 35) 1)], x)) rfl (by unfold vp_in; decide) ?_
          refine am_Rr.go 1 (σ' := (if ((x.2.2.1 29) 0) < ((x.2.2.1 35) 1) then 108 else 91, [some (.ref 27), none], [], x)) rfl ?_
          refine am_Rr.ite (fun h5 => ?_) (fun h5 => ?_)
          · rw [if_pos h5] at hF
            refine am_Rr.go 3 (σ' := (113, [some (.ref 27), none], [.int 1, .ref 35], x)) rfl ?_
            refine am_Rr.chk (σ' := (114, [some (.ref 27), none], [.int ((x.2.2.1 35) 1)], x)) rfl (by unfold vp_in; decide) ?_
            refine am_Rr.go 1 (σ' := (115, [some (.ref 27), some (.int ((x.2.2.1 35) 1))], [], x)) rfl ?_
            cases g10 : L_X8_takes_115 1000 ((x.2.2.1 35) 1) x with
            | none => rw [g10] at hF; cases hF
            | some q_ =>
              obtain ⟨v9, x8⟩ := q_
              rw [g10] at hF
              dsimp only at hF
              refine L_X8_takes_115_ok d _ v9 x8 _ _ _ g10 ?_
              refine am_Rr.go 1 (σ' := (147, [some (.ref 27), some (.int v9)], [.int 1], x8)) rfl ?_
              obtain rfl := Option.some.inj hF
              exact am_Rr.ret (v := some (.int 1)) (x := x8) rfl (by first | exact Or.inl rfl | exact Or.inr rfl | assumption) ⟨rfl, rfl⟩
          · rw [if_neg h5] at hF
            refine am_Rr.go 3 (σ' := (96, [some (.ref 27), none], [.int 0, .ref 29], x)) rfl ?_
            refine am_Rr.chk (σ' := (97, [some (.ref 27), none], [.int ((x.2.2.1 29) 0)], x)) rfl (by unfold vp_in; decide) ?_
            refine am_Rr.go 3 (σ' := (102, [some (.ref 27), none], [.int 2, .ref 35, .int ((x.2.2.1 29) 0)], x)) rfl ?_
            refine am_Rr.chk (σ' := (103, [some (.ref 27), none], [.int ((x.2.2.1 35) 2), .int ((x.2.2.1 29) 0)], x)) rfl (by unfold vp_in; decide) ?_
            refine am_Rr.go 1 (σ' := (if ((x.2.2.1 35) 2) < ((x.2.2.1 29) 0) then 108 else 106, [some (.ref 27), none], [], x)) rfl ?_
            refine am_Rr.ite (fun h11 => ?_) (fun h11 => ?_)
            · rw [if_pos h11] at hF
              refine am_Rr.go 3 (σ' := (113, [some (.ref 27), none], [.int 1, .ref 35], x)) rfl ?_
              refine am_Rr.chk (σ' := (114, [some (.ref 27), none], [.int ((x.2.2.1 35) 1)], x)) rfl (by unfold vp_in; decide) ?_
              refine am_Rr.go 1 (σ' := (115, [some (.ref 27), some (.int ((x.2.2.1 35) 1))], [], x)) rfl ?_
              cases g14 : L_X8_takes_115 1000 ((x.2.2.1 35) 1) x with
              | none => rw [g14] at hF; cases hF
              | some q_ =>
                obtain ⟨v13, x12⟩ := q_
                rw [g14] at hF
                dsimp only at hF
                refine L_X8_takes_115_ok d _ v13 x12 _ _ _ g14 ?_
                refine am_Rr.go 1 (σ' := (147, [some (.ref 27), some (.int v13)], [.int 1], x12)) rfl ?_
                obtain rfl := Option.some.inj hF
                exact am_Rr.ret (v := some (.int 1)) (x := x12) rfl (by first | exact Or.inl rfl | exact Or.inr rfl | assumption) ⟨rfl, rfl⟩
            · rw [if_neg h11] at hF
              refine am_Rr.go 1 (σ' := (107, [some (.ref 27), none], [.int 0], x)) rfl ?_
              obtain rfl := Option.some.inj hF
              exact am_Rr.ret (v := some (.int 0)) (x := x) rfl (by first | exact Or.inl rfl | exact Or.inr rfl | assumption) ⟨rfl, rfl⟩
        · rw [if_neg h4] at hF
          refine am_Rr.go 3 (σ' := (113, [some (.ref 27), none], [.int 1, .ref 35], x)) rfl ?_
          refine am_Rr.chk (σ' := (114, [some (.ref 27), none], [.int ((x.2.2.1 35) 1)], x)) rfl (by unfold vp_in; decide) ?_
          refine am_Rr.go 1 (σ' := (115, [some (.ref 27), some (.int ((x.2.2.1 35) 1))], [], x)) rfl ?_
          cases g17 : L_X8_takes_115 1000 ((x.2.2.1 35) 1) x with
          | none => rw [g17] at hF; cases hF
          | some q_ =>
            obtain ⟨v16, x15⟩ := q_
            rw [g17] at hF
            dsimp only at hF
            refine L_X8_takes_115_ok d _ v16 x15 _ _ _ g17 ?_
            refine am_Rr.go 1 (σ' := (147, [some (.ref 27), some (.int v16)], [.int 1], x15)) rfl ?_
            obtain rfl := Option.some.inj hF
            exact am_Rr.ret (v := some (.int 1)) (x := x15) rfl (by first | exact Or.inl rfl | exact Or.inr rfl | assumption) ⟨rfl, rfl⟩
  rw [if_neg h1] at hF
  refine am_Rr.ite (fun h18 => ?_) (fun h18 => ?_)
  · rw [if_pos h18] at hF
    refine am_Rr.go 3 (σ' := (45, [some (.ref 27), none], [.int 2, .ref 35], x)) rfl ?_
    refine am_Rr.chk (σ' := (46, [some (.ref 27), none], [.int ((x.2.2.1 35) 2)], x)) rfl (by unfold vp_in; decide) ?_
    refine am_Rr.go 2 (σ' := (if (36 : Int32) ≤ ((x.2.2.1 35) 2) then 106 else 51, [some (.ref 27), none], [], x)) rfl ?_
    refine am_Rr.ite (fun h19 => ?_) (fun h19 => ?_)
    · rw [if_pos h19] at hF
      refine am_Rr.go 1 (σ' := (107, [some (.ref 27), none], [.int 0], x)) rfl ?_
      obtain rfl := Option.some.inj hF
      exact am_Rr.ret (v := some (.int 0)) (x := x) rfl (by first | exact Or.inl rfl | exact Or.inr rfl | assumption) ⟨rfl, rfl⟩
    · rw [if_neg h19] at hF
      refine am_Rr.go 3 (σ' := (56, [some (.ref 27), none], [.int 1, .ref 35], x)) rfl ?_
      refine am_Rr.chk (σ' := (57, [some (.ref 27), none], [.int ((x.2.2.1 35) 1)], x)) rfl (by unfold vp_in; decide) ?_
      refine am_Rr.go 3 (σ' := (62, [some (.ref 27), none], [.int 2, .ref 35, .int ((x.2.2.1 35) 1)], x)) rfl ?_
      refine am_Rr.chk (σ' := (63, [some (.ref 27), none], [.int ((x.2.2.1 35) 2), .int ((x.2.2.1 35) 1)], x)) rfl (by unfold vp_in; decide) ?_
      refine am_Rr.go 1 (σ' := (if ((x.2.2.1 35) 2) < ((x.2.2.1 35) 1) then 106 else 66, [some (.ref 27), none], [], x)) rfl ?_
      refine am_Rr.ite (fun h20 => ?_) (fun h20 => ?_)
      · rw [if_pos h20] at hF
        refine am_Rr.go 1 (σ' := (107, [some (.ref 27), none], [.int 0], x)) rfl ?_
        obtain rfl := Option.some.inj hF
        exact am_Rr.ret (v := some (.int 0)) (x := x) rfl (by first | exact Or.inl rfl | exact Or.inr rfl | assumption) ⟨rfl, rfl⟩
      · rw [if_neg h20] at hF
        refine am_Rr.go 3 (σ' := (71, [some (.ref 27), none], [.int 0, .ref 35], x)) rfl ?_
        refine am_Rr.chk (σ' := (72, [some (.ref 27), none], [.int ((x.2.2.1 35) 0)], x)) rfl (by unfold vp_in; decide) ?_
        refine am_Rr.go 2 (σ' := (if ((x.2.2.1 35) 0) = 1 then 76 else 108, [some (.ref 27), none], [], x)) rfl ?_
        refine am_Rr.ite (fun h21 => ?_) (fun h21 => ?_)
        · rw [if_pos h21] at hF
          refine am_Rr.go 3 (σ' := (81, [some (.ref 27), none], [.int 1, .ref 35], x)) rfl ?_
          refine am_Rr.chk (σ' := (82, [some (.ref 27), none], [.int ((x.2.2.1 35) 1)], x)) rfl (by unfold vp_in; decide) ?_
          refine am_Rr.go 3 (σ' := (87, [some (.ref 27), none], [.int 0, .ref 29, .int ((x.2.2.1 35) 1)], x)) rfl ?_
          refine am_Rr.chk (σ' := (88, [some (.ref 27), none], [.int ((x.2.2.1 29) 0), .int ((x.2.2.1 35) 1)], x)) rfl (by unfold vp_in; decide) ?_
          refine am_Rr.go 1 (σ' := (if ((x.2.2.1 29) 0) < ((x.2.2.1 35) 1) then 108 else 91, [some (.ref 27), none], [], x)) rfl ?_
          refine am_Rr.ite (fun h22 => ?_) (fun h22 => ?_)
          · rw [if_pos h22] at hF
            refine am_Rr.go 3 (σ' := (113, [some (.ref 27), none], [.int 1, .ref 35], x)) rfl ?_
            refine am_Rr.chk (σ' := (114, [some (.ref 27), none], [.int ((x.2.2.1 35) 1)], x)) rfl (by unfold vp_in; decide) ?_
            refine am_Rr.go 1 (σ' := (115, [some (.ref 27), some (.int ((x.2.2.1 35) 1))], [], x)) rfl ?_
            cases g25 : L_X8_takes_115 1000 ((x.2.2.1 35) 1) x with
            | none => rw [g25] at hF; cases hF
            | some q_ =>
              obtain ⟨v24, x23⟩ := q_
              rw [g25] at hF
              dsimp only at hF
              refine L_X8_takes_115_ok d _ v24 x23 _ _ _ g25 ?_
              refine am_Rr.go 1 (σ' := (147, [some (.ref 27), some (.int v24)], [.int 1], x23)) rfl ?_
              obtain rfl := Option.some.inj hF
              exact am_Rr.ret (v := some (.int 1)) (x := x23) rfl (by first | exact Or.inl rfl | exact Or.inr rfl | assumption) ⟨rfl, rfl⟩
          · rw [if_neg h22] at hF
            refine am_Rr.go 3 (σ' := (96, [some (.ref 27), none], [.int 0, .ref 29], x)) rfl ?_
            refine am_Rr.chk (σ' := (97, [some (.ref 27), none], [.int ((x.2.2.1 29) 0)], x)) rfl (by unfold vp_in; decide) ?_
            refine am_Rr.go 3 (σ' := (102, [some (.ref 27), none], [.int 2, .ref 35, .int ((x.2.2.1 29) 0)], x)) rfl ?_
            refine am_Rr.chk (σ' := (103, [some (.ref 27), none], [.int ((x.2.2.1 35) 2), .int ((x.2.2.1 29) 0)], x)) rfl (by unfold vp_in; decide) ?_
            refine am_Rr.go 1 (σ' := (if ((x.2.2.1 35) 2) < ((x.2.2.1 29) 0) then 108 else 106, [some (.ref 27), none], [], x)) rfl ?_
            refine am_Rr.ite (fun h26 => ?_) (fun h26 => ?_)
            · rw [if_pos h26] at hF
              refine am_Rr.go 3 (σ' := (113, [some (.ref 27), none], [.int 1, .ref 35], x)) rfl ?_
              refine am_Rr.chk (σ' := (114, [some (.ref 27), none], [.int ((x.2.2.1 35) 1)], x)) rfl (by unfold vp_in; decide) ?_
              refine am_Rr.go 1 (σ' := (115, [some (.ref 27), some (.int ((x.2.2.1 35) 1))], [], x)) rfl ?_
              cases g29 : L_X8_takes_115 1000 ((x.2.2.1 35) 1) x with
              | none => rw [g29] at hF; cases hF
              | some q_ =>
                obtain ⟨v28, x27⟩ := q_
                rw [g29] at hF
                dsimp only at hF
                refine L_X8_takes_115_ok d _ v28 x27 _ _ _ g29 ?_
                refine am_Rr.go 1 (σ' := (147, [some (.ref 27), some (.int v28)], [.int 1], x27)) rfl ?_
                obtain rfl := Option.some.inj hF
                exact am_Rr.ret (v := some (.int 1)) (x := x27) rfl (by first | exact Or.inl rfl | exact Or.inr rfl | assumption) ⟨rfl, rfl⟩
            · rw [if_neg h26] at hF
              refine am_Rr.go 1 (σ' := (107, [some (.ref 27), none], [.int 0], x)) rfl ?_
              obtain rfl := Option.some.inj hF
              exact am_Rr.ret (v := some (.int 0)) (x := x) rfl (by first | exact Or.inl rfl | exact Or.inr rfl | assumption) ⟨rfl, rfl⟩
        · rw [if_neg h21] at hF
          refine am_Rr.go 3 (σ' := (113, [some (.ref 27), none], [.int 1, .ref 35], x)) rfl ?_
          refine am_Rr.chk (σ' := (114, [some (.ref 27), none], [.int ((x.2.2.1 35) 1)], x)) rfl (by unfold vp_in; decide) ?_
          refine am_Rr.go 1 (σ' := (115, [some (.ref 27), some (.int ((x.2.2.1 35) 1))], [], x)) rfl ?_
          cases g32 : L_X8_takes_115 1000 ((x.2.2.1 35) 1) x with
          | none => rw [g32] at hF; cases hF
          | some q_ =>
            obtain ⟨v31, x30⟩ := q_
            rw [g32] at hF
            dsimp only at hF
            refine L_X8_takes_115_ok d _ v31 x30 _ _ _ g32 ?_
            refine am_Rr.go 1 (σ' := (147, [some (.ref 27), some (.int v31)], [.int 1], x30)) rfl ?_
            obtain rfl := Option.some.inj hF
            exact am_Rr.ret (v := some (.int 1)) (x := x30) rfl (by first | exact Or.inl rfl | exact Or.inr rfl | assumption) ⟨rfl, rfl⟩
  rw [if_neg h18] at hF
  refine am_Rr.ite (fun h33 => ?_) (fun h33 => ?_)
  · rw [if_pos h33] at hF
    refine am_Rr.go 6 (σ' := (158, [some (.ref 27), none], [.int 0, .ref 35, .int 0, .ref 29], x)) rfl ?_
    refine am_Rr.chk (σ' := (159, [some (.ref 27), none], [.int ((x.2.2.1 35) 0), .int 0, .ref 29], x)) rfl (by unfold vp_in; decide) ?_
    refine am_Rr.chk (σ' := (160, [some (.ref 27), none], [], (am_sA x 29 (upd (x.2.2.1 29) 0 ((x.2.2.1 35) 0))))) rfl (by unfold vp_in; decide) ?_
    refine am_Rr.go 3 (σ' := (165, [some (.ref 27), none], [.int 0, .ref 35], (am_sA x 29 (upd (x.2.2.1 29) 0 ((x.2.2.1 35) 0))))) rfl ?_
    refine am_Rr.chk (σ' := (166, [some (.ref 27), none], [.int ((x.2.2.1 35) 0)], (am_sA x 29 (upd (x.2.2.1 29) 0 ((x.2.2.1 35) 0))))) rfl (by unfold vp_in; decide) ?_
    refine am_Rr.go 2 (σ' := (if (36 : Int32) ≤ ((x.2.2.1 35) 0) then 189 else 171, [some (.ref 27), none], [], (am_sA x 29 (upd (x.2.2.1 29) 0 ((x.2.2.1 35) 0))))) rfl ?_
    refine am_Rr.ite (fun h34 => ?_) (fun h34 => ?_)
    · rw [if_pos h34] at hF
      refine am_Rr.go 1 (σ' := (190, [some (.ref 27), none], [.int 0], (am_sA x 29 (upd (x.2.2.1 29) 0 ((x.2.2.1 35) 0))))) rfl ?_
      obtain rfl := Option.some.inj hF
      exact am_Rr.ret (v := some (.int 0)) (x := (am_sA x 29 (upd (x.2.2.1 29) 0 ((x.2.2.1 35) 0)))) rfl (by first | exact Or.inl rfl | exact Or.inr rfl | assumption) ⟨rfl, rfl⟩
    · rw [if_neg h34] at hF
      refine am_Rr.go 4 (σ' := (177, [some (.ref 27), none], [.int 0, .ref 35, .ref 27], (am_sA x 29 (upd (x.2.2.1 29) 0 ((x.2.2.1 35) 0))))) rfl ?_
      refine am_Rr.chk (σ' := (178, [some (.ref 27), none], [.int ((x.2.2.1 35) 0), .ref 27], (am_sA x 29 (upd (x.2.2.1 29) 0 ((x.2.2.1 35) 0))))) rfl (by unfold vp_in; decide) ?_
      cases g37 : G_X8_kindOf ((x.2.2.1 35) 0) (am_sA x 29 (upd (x.2.2.1 29) 0 ((x.2.2.1 35) 0))) with
      | none => rw [g37] at hF; cases hF
      | some q_ =>
        obtain ⟨r35, x36⟩ := q_
        rw [g37] at hF
        dsimp only at hF
        refine am_Rr.call (pc := 181) (ls := [some (.ref 27), none]) (st := []) rfl (A_X8_kindOf d g37) ?_
        rintro _ _ ⟨rfl, rfl⟩
        show am_Rr _ _ (181, [some (.ref 27), none], [.int r35], x36) _
        refine am_Rr.go 2 (σ' := (if r35 = 1 then 189 else 185, [some (.ref 27), none], [], x36)) rfl ?_
        refine am_Rr.ite (fun h38 => ?_) (fun h38 => ?_)
        · rw [if_pos h38] at hF
          refine am_Rr.go 1 (σ' := (190, [some (.ref 27), none], [.int 0], x36)) rfl ?_
          obtain rfl := Option.some.inj hF
          exact am_Rr.ret (v := some (.int 0)) (x := x36) rfl (by first | exact Or.inl rfl | exact Or.inr rfl | assumption) ⟨rfl, rfl⟩
        · rw [if_neg h38] at hF
          refine am_Rr.go 2 (σ' := (190, [some (.ref 27), none], [.int 1], x36)) rfl ?_
          obtain rfl := Option.some.inj hF
          exact am_Rr.ret (v := some (.int 1)) (x := x36) rfl (by first | exact Or.inl rfl | exact Or.inr rfl | assumption) ⟨rfl, rfl⟩
  rw [if_neg h33] at hF
  refine am_Rr.ite (fun h39 => ?_) (fun h39 => ?_)
  · rw [if_pos h39] at hF
    refine am_Rr.go 6 (σ' := (201, [some (.ref 27), none], [.int 0, .ref 35, .int 1, .ref 29], x)) rfl ?_
    refine am_Rr.chk (σ' := (202, [some (.ref 27), none], [.int ((x.2.2.1 35) 0), .int 1, .ref 29], x)) rfl (by unfold vp_in; decide) ?_
    refine am_Rr.chk (σ' := (203, [some (.ref 27), none], [], (am_sA x 29 (upd (x.2.2.1 29) 1 ((x.2.2.1 35) 0))))) rfl (by unfold vp_in; decide) ?_
    refine am_Rr.go 3 (σ' := (208, [some (.ref 27), none], [.int 0, .ref 35], (am_sA x 29 (upd (x.2.2.1 29) 1 ((x.2.2.1 35) 0))))) rfl ?_
    refine am_Rr.chk (σ' := (209, [some (.ref 27), none], [.int ((x.2.2.1 35) 0)], (am_sA x 29 (upd (x.2.2.1 29) 1 ((x.2.2.1 35) 0))))) rfl (by unfold vp_in; decide) ?_
    refine am_Rr.go 1 (σ' := (if ((x.2.2.1 35) 0) ≤ 0 then 216 else 212, [some (.ref 27), none], [], (am_sA x 29 (upd (x.2.2.1 29) 1 ((x.2.2.1 35) 0))))) rfl ?_
    refine am_Rr.ite (fun h40 => ?_) (fun h40 => ?_)
    · rw [if_pos h40] at hF
      refine am_Rr.go 1 (σ' := (217, [some (.ref 27), none], [.int 0], (am_sA x 29 (upd (x.2.2.1 29) 1 ((x.2.2.1 35) 0))))) rfl ?_
      obtain rfl := Option.some.inj hF
      exact am_Rr.ret (v := some (.int 0)) (x := (am_sA x 29 (upd (x.2.2.1 29) 1 ((x.2.2.1 35) 0)))) rfl (by first | exact Or.inl rfl | exact Or.inr rfl | assumption) ⟨rfl, rfl⟩
    · rw [if_neg h40] at hF
      refine am_Rr.go 2 (σ' := (217, [some (.ref 27), none], [.int 1], (am_sA x 29 (upd (x.2.2.1 29) 1 ((x.2.2.1 35) 0))))) rfl ?_
      obtain rfl := Option.some.inj hF
      exact am_Rr.ret (v := some (.int 1)) (x := (am_sA x 29 (upd (x.2.2.1 29) 1 ((x.2.2.1 35) 0)))) rfl (by first | exact Or.inl rfl | exact Or.inr rfl | assumption) ⟨rfl, rfl⟩
  rw [if_neg h39] at hF
  refine am_Rr.ite (fun h41 => ?_) (fun h41 => ?_)
  · rw [if_pos h41] at hF
    refine am_Rr.go 6 (σ' := (228, [some (.ref 27), none], [.int 0, .ref 35, .int 2, .ref 29], x)) rfl ?_
    refine am_Rr.chk (σ' := (229, [some (.ref 27), none], [.int ((x.2.2.1 35) 0), .int 2, .ref 29], x)) rfl (by unfold vp_in; decide) ?_
    refine am_Rr.chk (σ' := (230, [some (.ref 27), none], [], (am_sA x 29 (upd (x.2.2.1 29) 2 ((x.2.2.1 35) 0))))) rfl (by unfold vp_in; decide) ?_
    refine am_Rr.go 1 (σ' := (231, [some (.ref 27), none], [.int 1], (am_sA x 29 (upd (x.2.2.1 29) 2 ((x.2.2.1 35) 0))))) rfl ?_
    obtain rfl := Option.some.inj hF
    exact am_Rr.ret (v := some (.int 1)) (x := (am_sA x 29 (upd (x.2.2.1 29) 2 ((x.2.2.1 35) 0)))) rfl (by first | exact Or.inl rfl | exact Or.inr rfl | assumption) ⟨rfl, rfl⟩
  rw [if_neg h41] at hF
  refine am_Rr.go 3 (σ' := (237, [some (.ref 27), none], [.int 1, .ref 35], x)) rfl ?_
  refine am_Rr.chk (σ' := (238, [some (.ref 27), none], [.int ((x.2.2.1 35) 1)], x)) rfl (by unfold vp_in; decide) ?_
  refine am_Rr.go 2 (σ' := (if (36 : Int32) ≤ ((x.2.2.1 35) 1) then 253 else 243, [some (.ref 27), none], [], x)) rfl ?_
  refine am_Rr.ite (fun h42 => ?_) (fun h42 => ?_)
  · rw [if_pos h42] at hF
    refine am_Rr.go 1 (σ' := (254, [some (.ref 27), none], [.int 0], x)) rfl ?_
    obtain rfl := Option.some.inj hF
    exact am_Rr.ret (v := some (.int 0)) (x := x) rfl (by first | exact Or.inl rfl | exact Or.inr rfl | assumption) ⟨rfl, rfl⟩
  · rw [if_neg h42] at hF
    refine am_Rr.go 3 (σ' := (248, [some (.ref 27), none], [.int 3, .ref 29], x)) rfl ?_
    refine am_Rr.chk (σ' := (249, [some (.ref 27), none], [.int ((x.2.2.1 29) 3)], x)) rfl (by unfold vp_in; decide) ?_
    refine am_Rr.go 2 (σ' := (if ((x.2.2.1 29) 3) = 3 then 253 else 255, [some (.ref 27), none], [], x)) rfl ?_
    refine am_Rr.ite (fun h43 => ?_) (fun h43 => ?_)
    · rw [if_pos h43] at hF
      refine am_Rr.go 1 (σ' := (254, [some (.ref 27), none], [.int 0], x)) rfl ?_
      obtain rfl := Option.some.inj hF
      exact am_Rr.ret (v := some (.int 0)) (x := x) rfl (by first | exact Or.inl rfl | exact Or.inr rfl | assumption) ⟨rfl, rfl⟩
    · rw [if_neg h43] at hF
      refine am_Rr.go 7 (σ' := (267, [some (.ref 27), none], [.int 3, .ref 29, .int 2, .int 10, .ref 29], x)) rfl ?_
      refine am_Rr.chk (σ' := (268, [some (.ref 27), none], [.int ((x.2.2.1 29) 3), .int 2, .int 10, .ref 29], x)) rfl (by unfold vp_in; decide) ?_
      refine am_Rr.go 5 (σ' := (275, [some (.ref 27), none], [.int 0, .ref 35, .int ((10 : Int32) + ((2 : Int32) * ((x.2.2.1 29) 3))), .ref 29], x)) rfl ?_
      refine am_Rr.chk (σ' := (276, [some (.ref 27), none], [.int ((x.2.2.1 35) 0), .int ((10 : Int32) + ((2 : Int32) * ((x.2.2.1 29) 3))), .ref 29], x)) rfl (by unfold vp_in; decide) ?_
      by_cases c44 : 0 ≤ ((10 : Int32) + ((2 : Int32) * ((x.2.2.1 29) 3))).toInt ∧ ((10 : Int32) + ((2 : Int32) * ((x.2.2.1 29) 3))).toInt < 56
      · rw [if_pos c44] at hF
        refine am_Rr.chk (σ' := (277, [some (.ref 27), none], [], (am_sA x 29 (upd (x.2.2.1 29) (((10 : Int32) + ((2 : Int32) * ((x.2.2.1 29) 3))).toNatClampNeg) ((x.2.2.1 35) 0))))) rfl (by exact vp_in_iff.mpr c44) ?_
        refine am_Rr.go 7 (σ' := (289, [some (.ref 27), none], [.int 3, .ref 29, .int 2, .int 10, .ref 29], (am_sA x 29 (upd (x.2.2.1 29) (((10 : Int32) + ((2 : Int32) * ((x.2.2.1 29) 3))).toNatClampNeg) ((x.2.2.1 35) 0))))) rfl ?_
        refine am_Rr.chk (σ' := (290, [some (.ref 27), none], [.int ((upd (x.2.2.1 29) (((10 : Int32) + ((2 : Int32) * ((x.2.2.1 29) 3))).toNatClampNeg) ((x.2.2.1 35) 0)) 3), .int 2, .int 10, .ref 29], (am_sA x 29 (upd (x.2.2.1 29) (((10 : Int32) + ((2 : Int32) * ((x.2.2.1 29) 3))).toNatClampNeg) ((x.2.2.1 35) 0))))) rfl (by unfold vp_in; decide) ?_
        refine am_Rr.go 7 (σ' := (299, [some (.ref 27), none], [.int 1, .ref 35, .int (((10 : Int32) + ((2 : Int32) * ((upd (x.2.2.1 29) (((10 : Int32) + ((2 : Int32) * ((x.2.2.1 29) 3))).toNatClampNeg) ((x.2.2.1 35) 0)) 3))) + 1), .ref 29], (am_sA x 29 (upd (x.2.2.1 29) (((10 : Int32) + ((2 : Int32) * ((x.2.2.1 29) 3))).toNatClampNeg) ((x.2.2.1 35) 0))))) rfl ?_
        refine am_Rr.chk (σ' := (300, [some (.ref 27), none], [.int ((x.2.2.1 35) 1), .int (((10 : Int32) + ((2 : Int32) * ((upd (x.2.2.1 29) (((10 : Int32) + ((2 : Int32) * ((x.2.2.1 29) 3))).toNatClampNeg) ((x.2.2.1 35) 0)) 3))) + 1), .ref 29], (am_sA x 29 (upd (x.2.2.1 29) (((10 : Int32) + ((2 : Int32) * ((x.2.2.1 29) 3))).toNatClampNeg) ((x.2.2.1 35) 0))))) rfl (by unfold vp_in; decide) ?_
        by_cases c45 : 0 ≤ (((10 : Int32) + ((2 : Int32) * ((upd (x.2.2.1 29) (((10 : Int32) + ((2 : Int32) * ((x.2.2.1 29) 3))).toNatClampNeg) ((x.2.2.1 35) 0)) 3))) + 1).toInt ∧ (((10 : Int32) + ((2 : Int32) * ((upd (x.2.2.1 29) (((10 : Int32) + ((2 : Int32) * ((x.2.2.1 29) 3))).toNatClampNeg) ((x.2.2.1 35) 0)) 3))) + 1).toInt < 56
        · rw [if_pos c45] at hF
          refine am_Rr.chk (σ' := (301, [some (.ref 27), none], [], (am_sA (am_sA x 29 (upd (x.2.2.1 29) (((10 : Int32) + ((2 : Int32) * ((x.2.2.1 29) 3))).toNatClampNeg) ((x.2.2.1 35) 0))) 29 (upd (upd (x.2.2.1 29) (((10 : Int32) + ((2 : Int32) * ((x.2.2.1 29) 3))).toNatClampNeg) ((x.2.2.1 35) 0)) ((((10 : Int32) + ((2 : Int32) * ((upd (x.2.2.1 29) (((10 : Int32) + ((2 : Int32) * ((x.2.2.1 29) 3))).toNatClampNeg) ((x.2.2.1 35) 0)) 3))) + 1).toNatClampNeg) ((x.2.2.1 35) 1))))) rfl (by exact vp_in_iff.mpr c45) ?_
          refine am_Rr.go 4 (σ' := (307, [some (.ref 27), none], [.int 3, .ref 29, .int 3, .ref 29], (am_sA (am_sA x 29 (upd (x.2.2.1 29) (((10 : Int32) + ((2 : Int32) * ((x.2.2.1 29) 3))).toNatClampNeg) ((x.2.2.1 35) 0))) 29 (upd (upd (x.2.2.1 29) (((10 : Int32) + ((2 : Int32) * ((x.2.2.1 29) 3))).toNatClampNeg) ((x.2.2.1 35) 0)) ((((10 : Int32) + ((2 : Int32) * ((upd (x.2.2.1 29) (((10 : Int32) + ((2 : Int32) * ((x.2.2.1 29) 3))).toNatClampNeg) ((x.2.2.1 35) 0)) 3))) + 1).toNatClampNeg) ((x.2.2.1 35) 1))))) rfl ?_
          refine am_Rr.chk (σ' := (308, [some (.ref 27), none], [.int ((upd (upd (x.2.2.1 29) (((10 : Int32) + ((2 : Int32) * ((x.2.2.1 29) 3))).toNatClampNeg) ((x.2.2.1 35) 0)) ((((10 : Int32) + ((2 : Int32) * ((upd (x.2.2.1 29) (((10 : Int32) + ((2 : Int32) * ((x.2.2.1 29) 3))).toNatClampNeg) ((x.2.2.1 35) 0)) 3))) + 1).toNatClampNeg) ((x.2.2.1 35) 1)) 3), .int 3, .ref 29], (am_sA (am_sA x 29 (upd (x.2.2.1 29) (((10 : Int32) + ((2 : Int32) * ((x.2.2.1 29) 3))).toNatClampNeg) ((x.2.2.1 35) 0))) 29 (upd (upd (x.2.2.1 29) (((10 : Int32) + ((2 : Int32) * ((x.2.2.1 29) 3))).toNatClampNeg) ((x.2.2.1 35) 0)) ((((10 : Int32) + ((2 : Int32) * ((upd (x.2.2.1 29) (((10 : Int32) + ((2 : Int32) * ((x.2.2.1 29) 3))).toNatClampNeg) ((x.2.2.1 35) 0)) 3))) + 1).toNatClampNeg) ((x.2.2.1 35) 1))))) rfl (by unfold vp_in; decide) ?_
          refine am_Rr.go 2 (σ' := (310, [some (.ref 27), none], [.int (((upd (upd (x.2.2.1 29) (((10 : Int32) + ((2 : Int32) * ((x.2.2.1 29) 3))).toNatClampNeg) ((x.2.2.1 35) 0)) ((((10 : Int32) + ((2 : Int32) * ((upd (x.2.2.1 29) (((10 : Int32) + ((2 : Int32) * ((x.2.2.1 29) 3))).toNatClampNeg) ((x.2.2.1 35) 0)) 3))) + 1).toNatClampNeg) ((x.2.2.1 35) 1)) 3) + 1), .int 3, .ref 29], (am_sA (am_sA x 29 (upd (x.2.2.1 29) (((10 : Int32) + ((2 : Int32) * ((x.2.2.1 29) 3))).toNatClampNeg) ((x.2.2.1 35) 0))) 29 (upd (upd (x.2.2.1 29) (((10 : Int32) + ((2 : Int32) * ((x.2.2.1 29) 3))).toNatClampNeg) ((x.2.2.1 35) 0)) ((((10 : Int32) + ((2 : Int32) * ((upd (x.2.2.1 29) (((10 : Int32) + ((2 : Int32) * ((x.2.2.1 29) 3))).toNatClampNeg) ((x.2.2.1 35) 0)) 3))) + 1).toNatClampNeg) ((x.2.2.1 35) 1))))) rfl ?_
          refine am_Rr.chk (σ' := (311, [some (.ref 27), none], [], (am_sA (am_sA (am_sA x 29 (upd (x.2.2.1 29) (((10 : Int32) + ((2 : Int32) * ((x.2.2.1 29) 3))).toNatClampNeg) ((x.2.2.1 35) 0))) 29 (upd (upd (x.2.2.1 29) (((10 : Int32) + ((2 : Int32) * ((x.2.2.1 29) 3))).toNatClampNeg) ((x.2.2.1 35) 0)) ((((10 : Int32) + ((2 : Int32) * ((upd (x.2.2.1 29) (((10 : Int32) + ((2 : Int32) * ((x.2.2.1 29) 3))).toNatClampNeg) ((x.2.2.1 35) 0)) 3))) + 1).toNatClampNeg) ((x.2.2.1 35) 1))) 29 (upd (upd (upd (x.2.2.1 29) (((10 : Int32) + ((2 : Int32) * ((x.2.2.1 29) 3))).toNatClampNeg) ((x.2.2.1 35) 0)) ((((10 : Int32) + ((2 : Int32) * ((upd (x.2.2.1 29) (((10 : Int32) + ((2 : Int32) * ((x.2.2.1 29) 3))).toNatClampNeg) ((x.2.2.1 35) 0)) 3))) + 1).toNatClampNeg) ((x.2.2.1 35) 1)) 3 (((upd (upd (x.2.2.1 29) (((10 : Int32) + ((2 : Int32) * ((x.2.2.1 29) 3))).toNatClampNeg) ((x.2.2.1 35) 0)) ((((10 : Int32) + ((2 : Int32) * ((upd (x.2.2.1 29) (((10 : Int32) + ((2 : Int32) * ((x.2.2.1 29) 3))).toNatClampNeg) ((x.2.2.1 35) 0)) 3))) + 1).toNatClampNeg) ((x.2.2.1 35) 1)) 3) + 1))))) rfl (by unfold vp_in; decide) ?_
          refine am_Rr.go 1 (σ' := (312, [some (.ref 27), none], [.int 1], (am_sA (am_sA (am_sA x 29 (upd (x.2.2.1 29) (((10 : Int32) + ((2 : Int32) * ((x.2.2.1 29) 3))).toNatClampNeg) ((x.2.2.1 35) 0))) 29 (upd (upd (x.2.2.1 29) (((10 : Int32) + ((2 : Int32) * ((x.2.2.1 29) 3))).toNatClampNeg) ((x.2.2.1 35) 0)) ((((10 : Int32) + ((2 : Int32) * ((upd (x.2.2.1 29) (((10 : Int32) + ((2 : Int32) * ((x.2.2.1 29) 3))).toNatClampNeg) ((x.2.2.1 35) 0)) 3))) + 1).toNatClampNeg) ((x.2.2.1 35) 1))) 29 (upd (upd (upd (x.2.2.1 29) (((10 : Int32) + ((2 : Int32) * ((x.2.2.1 29) 3))).toNatClampNeg) ((x.2.2.1 35) 0)) ((((10 : Int32) + ((2 : Int32) * ((upd (x.2.2.1 29) (((10 : Int32) + ((2 : Int32) * ((x.2.2.1 29) 3))).toNatClampNeg) ((x.2.2.1 35) 0)) 3))) + 1).toNatClampNeg) ((x.2.2.1 35) 1)) 3 (((upd (upd (x.2.2.1 29) (((10 : Int32) + ((2 : Int32) * ((x.2.2.1 29) 3))).toNatClampNeg) ((x.2.2.1 35) 0)) ((((10 : Int32) + ((2 : Int32) * ((upd (x.2.2.1 29) (((10 : Int32) + ((2 : Int32) * ((x.2.2.1 29) 3))).toNatClampNeg) ((x.2.2.1 35) 0)) 3))) + 1).toNatClampNeg) ((x.2.2.1 35) 1)) 3) + 1))))) rfl ?_
          obtain rfl := Option.some.inj hF
          exact am_Rr.ret (v := some (.int 1)) (x := (am_sA (am_sA (am_sA x 29 (upd (x.2.2.1 29) (((10 : Int32) + ((2 : Int32) * ((x.2.2.1 29) 3))).toNatClampNeg) ((x.2.2.1 35) 0))) 29 (upd (upd (x.2.2.1 29) (((10 : Int32) + ((2 : Int32) * ((x.2.2.1 29) 3))).toNatClampNeg) ((x.2.2.1 35) 0)) ((((10 : Int32) + ((2 : Int32) * ((upd (x.2.2.1 29) (((10 : Int32) + ((2 : Int32) * ((x.2.2.1 29) 3))).toNatClampNeg) ((x.2.2.1 35) 0)) 3))) + 1).toNatClampNeg) ((x.2.2.1 35) 1))) 29 (upd (upd (upd (x.2.2.1 29) (((10 : Int32) + ((2 : Int32) * ((x.2.2.1 29) 3))).toNatClampNeg) ((x.2.2.1 35) 0)) ((((10 : Int32) + ((2 : Int32) * ((upd (x.2.2.1 29) (((10 : Int32) + ((2 : Int32) * ((x.2.2.1 29) 3))).toNatClampNeg) ((x.2.2.1 35) 0)) 3))) + 1).toNatClampNeg) ((x.2.2.1 35) 1)) 3 (((upd (upd (x.2.2.1 29) (((10 : Int32) + ((2 : Int32) * ((x.2.2.1 29) 3))).toNatClampNeg) ((x.2.2.1 35) 0)) ((((10 : Int32) + ((2 : Int32) * ((upd (x.2.2.1 29) (((10 : Int32) + ((2 : Int32) * ((x.2.2.1 29) 3))).toNatClampNeg) ((x.2.2.1 35) 0)) 3))) + 1).toNatClampNeg) ((x.2.2.1 35) 1)) 3) + 1)))) rfl (by first | exact Or.inl rfl | exact Or.inr rfl | assumption) ⟨rfl, rfl⟩
        · rw [if_neg c45] at hF
          cases hF
      · rw [if_neg c44] at hF
        cases hF
noncomputable def G_X8_canBe (a : Int32) (x : am_X) : Option (Int32 × am_X) := (match G_X8_kindOf a x with | none => none | some (r1, x2) => (if r1 = 1 then some ((0 : Int32), x2) else (if 0 ≤ a.toInt ∧ a.toInt < 36 then (if ((x2.2.2.1 37) a.toNatClampNeg) = 0 then some ((1 : Int32), x2) else some ((0 : Int32), x2)) else none)))
theorem A_X8_canBe (d : Nat) {a : Int32} {x : am_X} {res : Int32 × am_X} (hF : G_X8_canBe a x = some res) : am_T (d + 3) mX8_canBe [.ref 27, .int a] x (fun ro y => ro = some (.int res.1) ∧ res.2 = y) := by
  refine am_T.of rfl ?_
  show am_Rr (d + 2) kX8_canBe (0, [some (.ref 27), some (.int a)], [], x) _
  unfold G_X8_canBe at hF
  refine am_Rr.go 2 (σ' := (2, [some (.ref 27), some (.int a)], [.int a, .ref 27], x)) rfl ?_
  cases g3 : G_X8_kindOf a x with
  | none => rw [g3] at hF; cases hF
  | some q_ =>
    obtain ⟨r1, x2⟩ := q_
    rw [g3] at hF
    dsimp only at hF
    refine am_Rr.call (pc := 5) (ls := [some (.ref 27), some (.int a)]) (st := []) rfl (A_X8_kindOf d g3) ?_
    rintro _ _ ⟨rfl, rfl⟩
    show am_Rr _ _ (5, [some (.ref 27), some (.int a)], [.int r1], x2) _
    refine am_Rr.go 2 (σ' := (if r1 = 1 then 22 else 9, [some (.ref 27), some (.int a)], [], x2)) rfl ?_
    refine am_Rr.ite (fun h4 => ?_) (fun h4 => ?_)
    · rw [if_pos h4] at hF
      refine am_Rr.go 1 (σ' := (23, [some (.ref 27), some (.int a)], [.int 0], x2)) rfl ?_
      obtain rfl := Option.some.inj hF
      exact am_Rr.ret (v := some (.int 0)) (x := x2) rfl (by first | exact Or.inl rfl | exact Or.inr rfl | assumption) ⟨rfl, rfl⟩
    · rw [if_neg h4] at hF
      refine am_Rr.go 3 (σ' := (14, [some (.ref 27), some (.int a)], [.int a, .ref 37], x2)) rfl ?_
      by_cases c5 : 0 ≤ a.toInt ∧ a.toInt < 36
      · rw [if_pos c5] at hF
        refine am_Rr.chk (σ' := (15, [some (.ref 27), some (.int a)], [.int ((x2.2.2.1 37) a.toNatClampNeg)], x2)) rfl (by exact vp_in_iff.mpr c5) ?_
        refine am_Rr.go 1 (σ' := (if ((x2.2.2.1 37) a.toNatClampNeg) = 0 then 18 else 22, [some (.ref 27), some (.int a)], [], x2)) rfl ?_
        refine am_Rr.ite (fun h6 => ?_) (fun h6 => ?_)
        · rw [if_pos h6] at hF
          refine am_Rr.go 2 (σ' := (23, [some (.ref 27), some (.int a)], [.int 1], x2)) rfl ?_
          obtain rfl := Option.some.inj hF
          exact am_Rr.ret (v := some (.int 1)) (x := x2) rfl (by first | exact Or.inl rfl | exact Or.inr rfl | assumption) ⟨rfl, rfl⟩
        · rw [if_neg h6] at hF
          refine am_Rr.go 1 (σ' := (23, [some (.ref 27), some (.int a)], [.int 0], x2)) rfl ?_
          obtain rfl := Option.some.inj hF
          exact am_Rr.ret (v := some (.int 0)) (x := x2) rfl (by first | exact Or.inl rfl | exact Or.inr rfl | assumption) ⟨rfl, rfl⟩
      · rw [if_neg c5] at hF
        cases hF
noncomputable def G_X8_off (a : Int32) (x : am_X) : Option (Int32 × am_X) := (match G_X8_kindOf a x with | none => none | some (r1, x2) => (if r1 = 3 then some (((1 : Int32) + (((x2.2.2.1 29) 2) / 3)), x2) else (if r1 = 4 then some ((2 : Int32), x2) else some ((1 : Int32), x2))))
theorem A_X8_off (d : Nat) {a : Int32} {x : am_X} {res : Int32 × am_X} (hF : G_X8_off a x = some res) : am_T (d + 3) mX8_off [.ref 27, .int a] x (fun ro y => ro = some (.int res.1) ∧ res.2 = y) := by
  refine am_T.of rfl ?_
  show am_Rr (d + 2) kX8_off (0, [some (.ref 27), some (.int a), none], [], x) _
  unfold G_X8_off at hF
  refine am_Rr.go 2 (σ' := (2, [some (.ref 27), some (.int a), none], [.int a, .ref 27], x)) rfl ?_
  cases g3 : G_X8_kindOf a x with
  | none => rw [g3] at hF; cases hF
  | some q_ =>
    obtain ⟨r1, x2⟩ := q_
    rw [g3] at hF
    dsimp only at hF
    refine am_Rr.call (pc := 5) (ls := [some (.ref 27), some (.int a), none]) (st := []) rfl (A_X8_kindOf d g3) ?_
    rintro _ _ ⟨rfl, rfl⟩
    show am_Rr _ _ (5, [some (.ref 27), some (.int a), none], [.int r1], x2) _
    refine am_Rr.go 4 (σ' := (if r1 = 3 then 11 else 24, [some (.ref 27), some (.int a), some (.int r1)], [], x2)) rfl ?_
    refine am_Rr.ite (fun h4 => ?_) (fun h4 => ?_)
    · rw [if_pos h4] at hF
      refine am_Rr.go 4 (σ' := (17, [some (.ref 27), some (.int a), some (.int r1)], [.int 2, .ref 29, .int 1], x2)) rfl ?_
      refine am_Rr.chk (σ' := (18, [some (.ref 27), some (.int a), some (.int r1)], [.int ((x2.2.2.1 29) 2), .int 1], x2)) rfl (by unfold vp_in; decide) ?_
      refine am_Rr.go 1 (σ' := (19, [some (.ref 27), some (.int a), some (.int r1)], [.int 3, .int ((x2.2.2.1 29) 2), .int 1], x2)) rfl ?_
      refine am_Rr.chk (σ' := (20, [some (.ref 27), some (.int a), some (.int r1)], [.int (((x2.2.2.1 29) 2) / 3), .int 1], x2)) rfl (by decide) ?_
      refine am_Rr.go 2 (σ' := (34, [some (.ref 27), some (.int a), some (.int r1)], [.int ((1 : Int32) + (((x2.2.2.1 29) 2) / 3))], x2)) rfl ?_
      obtain rfl := Option.some.inj hF
      exact am_Rr.ret (v := some (.int ((1 : Int32) + (((x2.2.2.1 29) 2) / 3)))) (x := x2) rfl (by trivial) ⟨rfl, rfl⟩
    · rw [if_neg h4] at hF
      refine am_Rr.go 3 (σ' := (if r1 = 4 then 29 else 33, [some (.ref 27), some (.int a), some (.int r1)], [], x2)) rfl ?_
      refine am_Rr.ite (fun h5 => ?_) (fun h5 => ?_)
      · rw [if_pos h5] at hF
        refine am_Rr.go 2 (σ' := (34, [some (.ref 27), some (.int a), some (.int r1)], [.int 2], x2)) rfl ?_
        obtain rfl := Option.some.inj hF
        exact am_Rr.ret (v := some (.int 2)) (x := x2) rfl (by trivial) ⟨rfl, rfl⟩
      · rw [if_neg h5] at hF
        refine am_Rr.go 1 (σ' := (34, [some (.ref 27), some (.int a), some (.int r1)], [.int 1], x2)) rfl ?_
        obtain rfl := Option.some.inj hF
        exact am_Rr.ret (v := some (.int 1)) (x := x2) rfl (by trivial) ⟨rfl, rfl⟩
noncomputable def G_X8_turnTo (a : Int32) (b : Int32) (x : am_X) : Option (Int32 × am_X) := (match G_X8_isNoSquare a x with | none => none | some (r1, x2) => (if r1 = 0 then (if b < 0 then (match G_X8_no (-2 : Int32) x2 with | none => none | some (r6, x7) => some (r6, x7)) else (if b ≤ 5 then (if b = 1 then (if a = ((x2.2.2.1 29) 0) then (match G_X8_no (-3 : Int32) x2 with | none => none | some (r12, x13) => some (r12, x13)) else (match G_X8_kindOf a x2 with | none => none | some (r15, x16) => (if 0 ≤ ((20 : Int32) + a).toInt ∧ ((20 : Int32) + a).toInt < 56 then some (r15, (am_sA x16 29 (upd (x16.2.2.1 29) (((20 : Int32) + a).toNatClampNeg) b))) else none))) else (match G_X8_kindOf a x2 with | none => none | some (r19, x20) => (if 0 ≤ ((20 : Int32) + a).toInt ∧ ((20 : Int32) + a).toInt < 56 then some (r19, (am_sA x20 29 (upd (x20.2.2.1 29) (((20 : Int32) + a).toNatClampNeg) b))) else none))) else (match G_X8_no (-2 : Int32) x2 with | none => none | some (r23, x24) => some (r23, x24)))) else (match G_X8_no (-1 : Int32) x2 with | none => none | some (r26, x27) => some (r26, x27))))
theorem A_X8_turnTo (d : Nat) {a : Int32} {b : Int32} {x : am_X} {res : Int32 × am_X} (hF : G_X8_turnTo a b x = some res) : am_T (d + 3) mX8_turnTo [.ref 27, .int a, .int b] x (fun ro y => ro = some (.int res.1) ∧ res.2 = y) := by
  refine am_T.of rfl ?_
  show am_Rr (d + 2) kX8_turnTo (0, [some (.ref 27), some (.int a), some (.int b), none], [], x) _
  unfold G_X8_turnTo at hF
  refine am_Rr.go 1 (σ' := (1, [some (.ref 27), some (.int a), some (.int b), none], [.int a], x)) rfl ?_
  cases g3 : G_X8_isNoSquare a x with
  | none => rw [g3] at hF; cases hF
  | some q_ =>
    obtain ⟨r1, x2⟩ := q_
    rw [g3] at hF
    dsimp only at hF
    refine am_Rr.call (pc := 4) (ls := [some (.ref 27), some (.int a), some (.int b), none]) (st := []) rfl (A_X8_isNoSquare d g3) ?_
    rintro _ _ ⟨rfl, rfl⟩
    show am_Rr _ _ (4, [some (.ref 27), some (.int a), some (.int b), none], [.int r1], x2) _
    refine am_Rr.go 1 (σ' := (if r1 = 0 then 13 else 7, [some (.ref 27), some (.int a), some (.int b), none], [], x2)) rfl ?_
    refine am_Rr.ite (fun h4 => ?_) (fun h4 => ?_)
    · rw [if_pos h4] at hF
      refine am_Rr.go 2 (σ' := (if b < 0 then 22 else 17, [some (.ref 27), some (.int a), some (.int b), none], [], x2)) rfl ?_
      refine am_Rr.ite (fun h5 => ?_) (fun h5 => ?_)
      · rw [if_pos h5] at hF
        refine am_Rr.go 2 (σ' := (25, [some (.ref 27), some (.int a), some (.int b), none], [.int (-2), .ref 27], x2)) rfl ?_
        cases g8 : G_X8_no (-2 : Int32) x2 with
        | none => rw [g8] at hF; cases hF
        | some q_ =>
          obtain ⟨r6, x7⟩ := q_
          rw [g8] at hF
          dsimp only at hF
          refine am_Rr.call (pc := 28) (ls := [some (.ref 27), some (.int a), some (.int b), none]) (st := []) rfl (A_X8_no d g8) ?_
          rintro _ _ ⟨rfl, rfl⟩
          show am_Rr _ _ (28, [some (.ref 27), some (.int a), some (.int b), none], [.int r6], x7) _
          obtain rfl := Option.some.inj hF
          exact am_Rr.ret (v := some (.int r6)) (x := x7) rfl (by trivial) ⟨rfl, rfl⟩
      · rw [if_neg h5] at hF
        refine am_Rr.go 3 (σ' := (if b ≤ 5 then 29 else 22, [some (.ref 27), some (.int a), some (.int b), none], [], x2)) rfl ?_
        refine am_Rr.ite (fun h9 => ?_) (fun h9 => ?_)
        · rw [if_pos h9] at hF
          refine am_Rr.go 3 (σ' := (if b = 1 then 34 else 51, [some (.ref 27), some (.int a), some (.int b), none], [], x2)) rfl ?_
          refine am_Rr.ite (fun h10 => ?_) (fun h10 => ?_)
          · rw [if_pos h10] at hF
            refine am_Rr.go 4 (σ' := (40, [some (.ref 27), some (.int a), some (.int b), none], [.int 0, .ref 29, .int a], x2)) rfl ?_
            refine am_Rr.chk (σ' := (41, [some (.ref 27), some (.int a), some (.int b), none], [.int ((x2.2.2.1 29) 0), .int a], x2)) rfl (by unfold vp_in; decide) ?_
            refine am_Rr.go 1 (σ' := (if a = ((x2.2.2.1 29) 0) then 44 else 51, [some (.ref 27), some (.int a), some (.int b), none], [], x2)) rfl ?_
            refine am_Rr.ite (fun h11 => ?_) (fun h11 => ?_)
            · rw [if_pos h11] at hF
              refine am_Rr.go 2 (σ' := (47, [some (.ref 27), some (.int a), some (.int b), none], [.int (-3), .ref 27], x2)) rfl ?_
              cases g14 : G_X8_no (-3 : Int32) x2 with
              | none => rw [g14] at hF; cases hF
              | some q_ =>
                obtain ⟨r12, x13⟩ := q_
                rw [g14] at hF
                dsimp only at hF
                refine am_Rr.call (pc := 50) (ls := [some (.ref 27), some (.int a), some (.int b), none]) (st := []) rfl (A_X8_no d g14) ?_
                rintro _ _ ⟨rfl, rfl⟩
                show am_Rr _ _ (50, [some (.ref 27), some (.int a), some (.int b), none], [.int r12], x13) _
                obtain rfl := Option.some.inj hF
                exact am_Rr.ret (v := some (.int r12)) (x := x13) rfl (by trivial) ⟨rfl, rfl⟩
            · rw [if_neg h11] at hF
              refine am_Rr.go 2 (σ' := (53, [some (.ref 27), some (.int a), some (.int b), none], [.int a, .ref 27], x2)) rfl ?_
              cases g17 : G_X8_kindOf a x2 with
              | none => rw [g17] at hF; cases hF
              | some q_ =>
                obtain ⟨r15, x16⟩ := q_
                rw [g17] at hF
                dsimp only at hF
                refine am_Rr.call (pc := 56) (ls := [some (.ref 27), some (.int a), some (.int b), none]) (st := []) rfl (A_X8_kindOf d g17) ?_
                rintro _ _ ⟨rfl, rfl⟩
                show am_Rr _ _ (56, [some (.ref 27), some (.int a), some (.int b), none], [.int r15], x16) _
                refine am_Rr.go 7 (σ' := (66, [some (.ref 27), some (.int a), some (.int b), some (.int r15)], [.int b, .int ((20 : Int32) + a), .ref 29], x16)) rfl ?_
                by_cases c18 : 0 ≤ ((20 : Int32) + a).toInt ∧ ((20 : Int32) + a).toInt < 56
                · rw [if_pos c18] at hF
                  refine am_Rr.chk (σ' := (67, [some (.ref 27), some (.int a), some (.int b), some (.int r15)], [], (am_sA x16 29 (upd (x16.2.2.1 29) (((20 : Int32) + a).toNatClampNeg) b)))) rfl (by exact vp_in_iff.mpr c18) ?_
                  refine am_Rr.go 1 (σ' := (68, [some (.ref 27), some (.int a), some (.int b), some (.int r15)], [.int r15], (am_sA x16 29 (upd (x16.2.2.1 29) (((20 : Int32) + a).toNatClampNeg) b)))) rfl ?_
                  obtain rfl := Option.some.inj hF
                  exact am_Rr.ret (v := some (.int r15)) (x := (am_sA x16 29 (upd (x16.2.2.1 29) (((20 : Int32) + a).toNatClampNeg) b))) rfl (by trivial) ⟨rfl, rfl⟩
                · rw [if_neg c18] at hF
                  cases hF
          · rw [if_neg h10] at hF
            refine am_Rr.go 2 (σ' := (53, [some (.ref 27), some (.int a), some (.int b), none], [.int a, .ref 27], x2)) rfl ?_
            cases g21 : G_X8_kindOf a x2 with
            | none => rw [g21] at hF; cases hF
            | some q_ =>
              obtain ⟨r19, x20⟩ := q_
              rw [g21] at hF
              dsimp only at hF
              refine am_Rr.call (pc := 56) (ls := [some (.ref 27), some (.int a), some (.int b), none]) (st := []) rfl (A_X8_kindOf d g21) ?_
              rintro _ _ ⟨rfl, rfl⟩
              show am_Rr _ _ (56, [some (.ref 27), some (.int a), some (.int b), none], [.int r19], x20) _
              refine am_Rr.go 7 (σ' := (66, [some (.ref 27), some (.int a), some (.int b), some (.int r19)], [.int b, .int ((20 : Int32) + a), .ref 29], x20)) rfl ?_
              by_cases c22 : 0 ≤ ((20 : Int32) + a).toInt ∧ ((20 : Int32) + a).toInt < 56
              · rw [if_pos c22] at hF
                refine am_Rr.chk (σ' := (67, [some (.ref 27), some (.int a), some (.int b), some (.int r19)], [], (am_sA x20 29 (upd (x20.2.2.1 29) (((20 : Int32) + a).toNatClampNeg) b)))) rfl (by exact vp_in_iff.mpr c22) ?_
                refine am_Rr.go 1 (σ' := (68, [some (.ref 27), some (.int a), some (.int b), some (.int r19)], [.int r19], (am_sA x20 29 (upd (x20.2.2.1 29) (((20 : Int32) + a).toNatClampNeg) b)))) rfl ?_
                obtain rfl := Option.some.inj hF
                exact am_Rr.ret (v := some (.int r19)) (x := (am_sA x20 29 (upd (x20.2.2.1 29) (((20 : Int32) + a).toNatClampNeg) b))) rfl (by trivial) ⟨rfl, rfl⟩
              · rw [if_neg c22] at hF
                cases hF
        · rw [if_neg h9] at hF
          refine am_Rr.go 2 (σ' := (25, [some (.ref 27), some (.int a), some (.int b), none], [.int (-2), .ref 27], x2)) rfl ?_
          cases g25 : G_X8_no (-2 : Int32) x2 with
          | none => rw [g25] at hF; cases hF
          | some q_ =>
            obtain ⟨r23, x24⟩ := q_
            rw [g25] at hF
            dsimp only at hF
            refine am_Rr.call (pc := 28) (ls := [some (.ref 27), some (.int a), some (.int b), none]) (st := []) rfl (A_X8_no d g25) ?_
            rintro _ _ ⟨rfl, rfl⟩
            show am_Rr _ _ (28, [some (.ref 27), some (.int a), some (.int b), none], [.int r23], x24) _
            obtain rfl := Option.some.inj hF
            exact am_Rr.ret (v := some (.int r23)) (x := x24) rfl (by trivial) ⟨rfl, rfl⟩
    · rw [if_neg h4] at hF
      refine am_Rr.go 2 (σ' := (9, [some (.ref 27), some (.int a), some (.int b), none], [.int (-1), .ref 27], x2)) rfl ?_
      cases g28 : G_X8_no (-1 : Int32) x2 with
      | none => rw [g28] at hF; cases hF
      | some q_ =>
        obtain ⟨r26, x27⟩ := q_
        rw [g28] at hF
        dsimp only at hF
        refine am_Rr.call (pc := 12) (ls := [some (.ref 27), some (.int a), some (.int b), none]) (st := []) rfl (A_X8_no d g28) ?_
        rintro _ _ ⟨rfl, rfl⟩
        show am_Rr _ _ (12, [some (.ref 27), some (.int a), some (.int b), none], [.int r26], x27) _
        obtain rfl := Option.some.inj hF
        exact am_Rr.ret (v := some (.int r26)) (x := x27) rfl (by trivial) ⟨rfl, rfl⟩
