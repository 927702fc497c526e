noncomputable def L_X8_turning_53 : Nat → Int32 → Int32 → Int32 → Int32 → am_X → Option (Int32 × Int32 × Int32 × Int32 × am_X)
  | 0, _, _, _, _, _ => none
  | n + 1, v2, v3, v4, v5, x => (if v2 ≤ v5 then some (v2, v3, v4, v5, x) else (if v4 = 2 then (match G_X8_beside v3 (3 : Int32) x with | none => none | some (r10, x11) => (if r10 = (-9) then L_X8_turning_53 n v2 v3 ((v4 + 1) - (v4 + 1) / 4 * 4) (v5 + 1) x11 else (match G_X8_canBe r10 x11 with | none => none | some (r14, x15) => (if r14 = 0 then L_X8_turning_53 n v2 v3 ((v4 + 1) - (v4 + 1) / 4 * 4) (v5 + 1) x15 else (match G_X8_kindOf v3 x15 with | none => none | some (r18, x19) => (if r18 = 5 then L_X8_turning_53 n v2 v3 ((v4 + 1) - (v4 + 1) / 4 * 4) (v5 + 1) x19 else L_X8_turning_53 n v2 r10 v4 (v5 + 1) x19)))))) else (if v4 = 3 then (match G_X8_beside v3 (2 : Int32) x with | none => none | some (r23, x24) => (if r23 = (-9) then L_X8_turning_53 n v2 v3 ((v4 + 1) - (v4 + 1) / 4 * 4) (v5 + 1) x24 else (match G_X8_canBe r23 x24 with | none => none | some (r27, x28) => (if r27 = 0 then L_X8_turning_53 n v2 v3 ((v4 + 1) - (v4 + 1) / 4 * 4) (v5 + 1) x28 else (match G_X8_kindOf v3 x28 with | none => none | some (r31, x32) => (if r31 = 5 then L_X8_turning_53 n v2 v3 ((v4 + 1) - (v4 + 1) / 4 * 4) (v5 + 1) x32 else L_X8_turning_53 n v2 r23 v4 (v5 + 1) x32)))))) else (match G_X8_beside v3 v4 x with | none => none | some (r35, x36) => (if r35 = (-9) then L_X8_turning_53 n v2 v3 ((v4 + 1) - (v4 + 1) / 4 * 4) (v5 + 1) x36 else (match G_X8_canBe r35 x36 with | none => none | some (r39, x40) => (if r39 = 0 then L_X8_turning_53 n v2 v3 ((v4 + 1) - (v4 + 1) / 4 * 4) (v5 + 1) x40 else (match G_X8_kindOf v3 x40 with | none => none | some (r43, x44) => (if r43 = 5 then L_X8_turning_53 n v2 v3 ((v4 + 1) - (v4 + 1) / 4 * 4) (v5 + 1) x44 else L_X8_turning_53 n v2 r35 v4 (v5 + 1) x44)))))))))
theorem L_X8_turning_53_ok (d : Nat) (post : Option Value → am_X → Prop) (w2 : Int32) (w3 : Int32) (w4 : Int32) (w5 : Int32) (y : am_X) : ∀ (n : Nat) (v2 : Int32) (v3 : Int32) (v4 : Int32) (v5 : Int32) (x : am_X), L_X8_turning_53 n v2 v3 v4 v5 x = some (w2, w3, w4, w5, y) → am_Rr (d + 3) kX8_turning (132, [some (.ref 27), none, some (.int w2), some (.int w3), some (.int w4), some (.int w5), none], [], y) post → am_Rr (d + 3) kX8_turning (53, [some (.ref 27), none, some (.int v2), some (.int v3), some (.int v4), some (.int v5), none], [], x) post := by
  intro n
  induction n with
  | zero =>
    intro v2 v3 v4 v5 x hF
    cases hF
  | succ n ih =>
    intro v2 v3 v4 v5 x hF hk
    rw [L_X8_turning_53] at hF
    refine am_Rr.go 3 (σ' := (if v2 ≤ v5 then 132 else 59, [some (.ref 27), none, some (.int v2), some (.int v3), some (.int v4), some (.int v5), none], [], x)) rfl ?_
    refine am_Rr.ite (fun h8 => ?_) (fun h8 => ?_)
    · rw [if_pos h8] at hF
      cases hF
      exact hk
    · rw [if_neg h8] at hF
      refine am_Rr.go 4 (σ' := (if v4 = 2 then 66 else 70, [some (.ref 27), none, some (.int v2), some (.int v3), some (.int v4), some (.int v5), none], [.int v3], x)) rfl ?_
      refine am_Rr.ite (fun h9 => ?_) (fun h9 => ?_)
      · rw [if_pos h9] at hF
        refine am_Rr.go 2 (σ' := (82, [some (.ref 27), none, some (.int v2), some (.int v3), some (.int v4), some (.int v5), none], [.int 3, .int v3], x)) rfl ?_
        cases g12 : G_X8_beside v3 (3 : Int32) x with
        | none => rw [g12] at hF; cases hF
        | some q_ =>
          obtain ⟨r10, x11⟩ := q_
          rw [g12] at hF
          dsimp only at hF
          refine am_Rr.call (pc := 85) (ls := [some (.ref 27), none, some (.int v2), some (.int v3), some (.int v4), some (.int v5), none]) (st := []) rfl (A_X8_beside (d + 1) g12) ?_
          rintro _ _ ⟨rfl, rfl⟩
          show am_Rr _ _ (85, [some (.ref 27), none, some (.int v2), some (.int v3), some (.int v4), some (.int v5), none], [.int r10], x11) _
          refine am_Rr.go 4 (σ' := (if r10 = (-9) then 118 else 94, [some (.ref 27), none, some (.int v2), some (.int v3), some (.int v4), some (.int v5), some (.int r10)], [], x11)) rfl ?_
          refine am_Rr.ite (fun h13 => ?_) (fun h13 => ?_)
          · rw [if_pos h13] at hF
            refine am_Rr.go 4 (σ' := (123, [some (.ref 27), none, some (.int v2), some (.int v3), some (.int v4), some (.int v5), some (.int r10)], [.int 4, .int (v4 + 1)], x11)) rfl ?_
            refine am_Rr.chk (σ' := (124, [some (.ref 27), none, some (.int v2), some (.int v3), some (.int v4), some (.int v5), some (.int r10)], [.int ((v4 + 1) - (v4 + 1) / 4 * 4)], x11)) rfl (by decide) ?_
            refine am_Rr.go 3 (σ' := (53, [some (.ref 27), none, some (.int v2), some (.int v3), some (.int ((v4 + 1) - (v4 + 1) / 4 * 4)), some (.int (v5 + 1)), some (.int r10)], [], x11)) rfl ?_
            refine am_Rr.weak (ls0 := [some (.ref 27), none, some (.int v2), some (.int v3), some (.int ((v4 + 1) - (v4 + 1) / 4 * 4)), some (.int (v5 + 1)), none]) (by simp [am_le]) ?_
            exact ih _ _ _ _ _ hF hk
          · rw [if_neg h13] at hF
            refine am_Rr.go 2 (σ' := (97, [some (.ref 27), none, some (.int v2), some (.int v3), some (.int v4), some (.int v5), some (.int r10)], [.int r10, .ref 27], x11)) rfl ?_
            cases g16 : G_X8_canBe r10 x11 with
            | none => rw [g16] at hF; cases hF
            | some q_ =>
              obtain ⟨r14, x15⟩ := q_
              rw [g16] at hF
              dsimp only at hF
              refine am_Rr.call (pc := 100) (ls := [some (.ref 27), none, some (.int v2), some (.int v3), some (.int v4), some (.int v5), some (.int r10)]) (st := []) rfl (A_X8_canBe d g16) ?_
              rintro _ _ ⟨rfl, rfl⟩
              show am_Rr _ _ (100, [some (.ref 27), none, some (.int v2), some (.int v3), some (.int v4), some (.int v5), some (.int r10)], [.int r14], x15) _
              refine am_Rr.go 1 (σ' := (if r14 = 0 then 118 else 103, [some (.ref 27), none, some (.int v2), some (.int v3), some (.int v4), some (.int v5), some (.int r10)], [], x15)) rfl ?_
              refine am_Rr.ite (fun h17 => ?_) (fun h17 => ?_)
              · rw [if_pos h17] at hF
                refine am_Rr.go 4 (σ' := (123, [some (.ref 27), none, some (.int v2), some (.int v3), some (.int v4), some (.int v5), some (.int r10)], [.int 4, .int (v4 + 1)], x15)) rfl ?_
                refine am_Rr.chk (σ' := (124, [some (.ref 27), none, some (.int v2), some (.int v3), some (.int v4), some (.int v5), some (.int r10)], [.int ((v4 + 1) - (v4 + 1) / 4 * 4)], x15)) rfl (by decide) ?_
                refine am_Rr.go 3 (σ' := (53, [some (.ref 27), none, some (.int v2), some (.int v3), some (.int ((v4 + 1) - (v4 + 1) / 4 * 4)), some (.int (v5 + 1)), some (.int r10)], [], x15)) rfl ?_
                refine am_Rr.weak (ls0 := [some (.ref 27), none, some (.int v2), some (.int v3), some (.int ((v4 + 1) - (v4 + 1) / 4 * 4)), some (.int (v5 + 1)), none]) (by simp [am_le]) ?_
                exact ih _ _ _ _ _ hF hk
              · rw [if_neg h17] at hF
                refine am_Rr.go 2 (σ' := (105, [some (.ref 27), none, some (.int v2), some (.int v3), some (.int v4), some (.int v5), some (.int r10)], [.int v3, .ref 27], x15)) rfl ?_
                cases g20 : G_X8_kindOf v3 x15 with
                | none => rw [g20] at hF; cases hF
                | some q_ =>
                  obtain ⟨r18, x19⟩ := q_
                  rw [g20] at hF
                  dsimp only at hF
                  refine am_Rr.call (pc := 108) (ls := [some (.ref 27), none, some (.int v2), some (.int v3), some (.int v4), some (.int v5), some (.int r10)]) (st := []) rfl (A_X8_kindOf (d + 1) g20) ?_
                  rintro _ _ ⟨rfl, rfl⟩
                  show am_Rr _ _ (108, [some (.ref 27), none, some (.int v2), some (.int v3), some (.int v4), some (.int v5), some (.int r10)], [.int r18], x19) _
                  refine am_Rr.go 2 (σ' := (if r18 = 5 then 118 else 112, [some (.ref 27), none, some (.int v2), some (.int v3), some (.int v4), some (.int v5), some (.int r10)], [], x19)) rfl ?_
                  refine am_Rr.ite (fun h21 => ?_) (fun h21 => ?_)
                  · rw [if_pos h21] at hF
                    refine am_Rr.go 4 (σ' := (123, [some (.ref 27), none, some (.int v2), some (.int v3), some (.int v4), some (.int v5), some (.int r10)], [.int 4, .int (v4 + 1)], x19)) rfl ?_
                    refine am_Rr.chk (σ' := (124, [some (.ref 27), none, some (.int v2), some (.int v3), some (.int v4), some (.int v5), some (.int r10)], [.int ((v4 + 1) - (v4 + 1) / 4 * 4)], x19)) rfl (by decide) ?_
                    refine am_Rr.go 3 (σ' := (53, [some (.ref 27), none, some (.int v2), some (.int v3), some (.int ((v4 + 1) - (v4 + 1) / 4 * 4)), some (.int (v5 + 1)), some (.int r10)], [], x19)) rfl ?_
                    refine am_Rr.weak (ls0 := [some (.ref 27), none, some (.int v2), some (.int v3), some (.int ((v4 + 1) - (v4 + 1) / 4 * 4)), some (.int (v5 + 1)), none]) (by simp [am_le]) ?_
                    exact ih _ _ _ _ _ hF hk
                  · rw [if_neg h21] at hF
                    refine am_Rr.go 5 (σ' := (53, [some (.ref 27), none, some (.int v2), some (.int r10), some (.int v4), some (.int (v5 + 1)), some (.int r10)], [], x19)) rfl ?_
                    refine am_Rr.weak (ls0 := [some (.ref 27), none, some (.int v2), some (.int r10), some (.int v4), some (.int (v5 + 1)), none]) (by simp [am_le]) ?_
                    exact ih _ _ _ _ _ hF hk
      · rw [if_neg h9] at hF
        refine am_Rr.go 3 (σ' := (if v4 = 3 then 76 else 80, [some (.ref 27), none, some (.int v2), some (.int v3), some (.int v4), some (.int v5), none], [.int v3], x)) rfl ?_
        refine am_Rr.ite (fun h22 => ?_) (fun h22 => ?_)
        · rw [if_pos h22] at hF
          refine am_Rr.go 2 (σ' := (82, [some (.ref 27), none, some (.int v2), some (.int v3), some (.int v4), some (.int v5), none], [.int 2, .int v3], x)) rfl ?_
          cases g25 : G_X8_beside v3 (2 : Int32) x with
          | none => rw [g25] at hF; cases hF
          | some q_ =>
            obtain ⟨r23, x24⟩ := q_
            rw [g25] at hF
            dsimp only at hF
            refine am_Rr.call (pc := 85) (ls := [some (.ref 27), none, some (.int v2), some (.int v3), some (.int v4), some (.int v5), none]) (st := []) rfl (A_X8_beside (d + 1) g25) ?_
            rintro _ _ ⟨rfl, rfl⟩
            show am_Rr _ _ (85, [some (.ref 27), none, some (.int v2), some (.int v3), some (.int v4), some (.int v5), none], [.int r23], x24) _
            refine am_Rr.go 4 (σ' := (if r23 = (-9) then 118 else 94, [some (.ref 27), none, some (.int v2), some (.int v3), some (.int v4), some (.int v5), some (.int r23)], [], x24)) rfl ?_
            refine am_Rr.ite (fun h26 => ?_) (fun h26 => ?_)
            · rw [if_pos h26] at hF
              refine am_Rr.go 4 (σ' := (123, [some (.ref 27), none, some (.int v2), some (.int v3), some (.int v4), some (.int v5), some (.int r23)], [.int 4, .int (v4 + 1)], x24)) rfl ?_
              refine am_Rr.chk (σ' := (124, [some (.ref 27), none, some (.int v2), some (.int v3), some (.int v4), some (.int v5), some (.int r23)], [.int ((v4 + 1) - (v4 + 1) / 4 * 4)], x24)) rfl (by decide) ?_
              refine am_Rr.go 3 (σ' := (53, [some (.ref 27), none, some (.int v2), some (.int v3), some (.int ((v4 + 1) - (v4 + 1) / 4 * 4)), some (.int (v5 + 1)), some (.int r23)], [], x24)) rfl ?_
              refine am_Rr.weak (ls0 := [some (.ref 27), none, some (.int v2), some (.int v3), some (.int ((v4 + 1) - (v4 + 1) / 4 * 4)), some (.int (v5 + 1)), none]) (by simp [am_le]) ?_
              exact ih _ _ _ _ _ hF hk
            · rw [if_neg h26] at hF
              refine am_Rr.go 2 (σ' := (97, [some (.ref 27), none, some (.int v2), some (.int v3), some (.int v4), some (.int v5), some (.int r23)], [.int r23, .ref 27], x24)) rfl ?_
              cases g29 : G_X8_canBe r23 x24 with
              | none => rw [g29] at hF; cases hF
              | some q_ =>
                obtain ⟨r27, x28⟩ := q_
                rw [g29] at hF
                dsimp only at hF
                refine am_Rr.call (pc := 100) (ls := [some (.ref 27), none, some (.int v2), some (.int v3), some (.int v4), some (.int v5), some (.int r23)]) (st := []) rfl (A_X8_canBe d g29) ?_
                rintro _ _ ⟨rfl, rfl⟩
                show am_Rr _ _ (100, [some (.ref 27), none, some (.int v2), some (.int v3), some (.int v4), some (.int v5), some (.int r23)], [.int r27], x28) _
                refine am_Rr.go 1 (σ' := (if r27 = 0 then 118 else 103, [some (.ref 27), none, some (.int v2), some (.int v3), some (.int v4), some (.int v5), some (.int r23)], [], x28)) rfl ?_
                refine am_Rr.ite (fun h30 => ?_) (fun h30 => ?_)
                · rw [if_pos h30] at hF
                  refine am_Rr.go 4 (σ' := (123, [some (.ref 27), none, some (.int v2), some (.int v3), some (.int v4), some (.int v5), some (.int r23)], [.int 4, .int (v4 + 1)], x28)) rfl ?_
                  refine am_Rr.chk (σ' := (124, [some (.ref 27), none, some (.int v2), some (.int v3), some (.int v4), some (.int v5), some (.int r23)], [.int ((v4 + 1) - (v4 + 1) / 4 * 4)], x28)) rfl (by decide) ?_
                  refine am_Rr.go 3 (σ' := (53, [some (.ref 27), none, some (.int v2), some (.int v3), some (.int ((v4 + 1) - (v4 + 1) / 4 * 4)), some (.int (v5 + 1)), some (.int r23)], [], x28)) rfl ?_
                  refine am_Rr.weak (ls0 := [some (.ref 27), none, some (.int v2), some (.int v3), some (.int ((v4 + 1) - (v4 + 1) / 4 * 4)), some (.int (v5 + 1)), none]) (by simp [am_le]) ?_
                  exact ih _ _ _ _ _ hF hk
                · rw [if_neg h30] at hF
                  refine am_Rr.go 2 (σ' := (105, [some (.ref 27), none, some (.int v2), some (.int v3), some (.int v4), some (.int v5), some (.int r23)], [.int v3, .ref 27], x28)) rfl ?_
                  cases g33 : G_X8_kindOf v3 x28 with
                  | none => rw [g33] at hF; cases hF
                  | some q_ =>
                    obtain ⟨r31, x32⟩ := q_
                    rw [g33] at hF
                    dsimp only at hF
                    refine am_Rr.call (pc := 108) (ls := [some (.ref 27), none, some (.int v2), some (.int v3), some (.int v4), some (.int v5), some (.int r23)]) (st := []) rfl (A_X8_kindOf (d + 1) g33) ?_
                    rintro _ _ ⟨rfl, rfl⟩
                    show am_Rr _ _ (108, [some (.ref 27), none, some (.int v2), some (.int v3), some (.int v4), some (.int v5), some (.int r23)], [.int r31], x32) _
                    refine am_Rr.go 2 (σ' := (if r31 = 5 then 118 else 112, [some (.ref 27), none, some (.int v2), some (.int v3), some (.int v4), some (.int v5), some (.int r23)], [], x32)) rfl ?_
                    refine am_Rr.ite (fun h34 => ?_) (fun h34 => ?_)
                    · rw [if_pos h34] at hF
                      refine am_Rr.go 4 (σ' := (123, [some (.ref 27), none, some (.int v2), some (.int v3), some (.int v4), some (.int v5), some (.int r23)], [.int 4, .int (v4 + 1)], x32)) rfl ?_
                      refine am_Rr.chk (σ' := (124, [some (.ref 27), none, some (.int v2), some (.int v3), some (.int v4), some (.int v5), some (.int r23)], [.int ((v4 + 1) - (v4 + 1) / 4 * 4)], x32)) rfl (by decide) ?_
                      refine am_Rr.go 3 (σ' := (53, [some (.ref 27), none, some (.int v2), some (.int v3), some (.int ((v4 + 1) - (v4 + 1) / 4 * 4)), some (.int (v5 + 1)), some (.int r23)], [], x32)) rfl ?_
                      refine am_Rr.weak (ls0 := [some (.ref 27), none, some (.int v2), some (.int v3), some (.int ((v4 + 1) - (v4 + 1) / 4 * 4)), some (.int (v5 + 1)), none]) (by simp [am_le]) ?_
                      exact ih _ _ _ _ _ hF hk
                    · rw [if_neg h34] at hF
                      refine am_Rr.go 5 (σ' := (53, [some (.ref 27), none, some (.int v2), some (.int r23), some (.int v4), some (.int (v5 + 1)), some (.int r23)], [], x32)) rfl ?_
                      refine am_Rr.weak (ls0 := [some (.ref 27), none, some (.int v2), some (.int r23), some (.int v4), some (.int (v5 + 1)), none]) (by simp [am_le]) ?_
                      exact ih _ _ _ _ _ hF hk
        · rw [if_neg h22] at hF
          refine am_Rr.go 1 (σ' := (82, [some (.ref 27), none, some (.int v2), some (.int v3), some (.int v4), some (.int v5), none], [.int v4, .int v3], x)) rfl ?_
          cases g37 : G_X8_beside v3 v4 x with
          | none => rw [g37] at hF; cases hF
          | some q_ =>
            obtain ⟨r35, x36⟩ := q_
            rw [g37] at hF
            dsimp only at hF
            refine am_Rr.call (pc := 85) (ls := [some (.ref 27), none, some (.int v2), some (.int v3), some (.int v4), some (.int v5), none]) (st := []) rfl (A_X8_beside (d + 1) g37) ?_
            rintro _ _ ⟨rfl, rfl⟩
            show am_Rr _ _ (85, [some (.ref 27), none, some (.int v2), some (.int v3), some (.int v4), some (.int v5), none], [.int r35], x36) _
            refine am_Rr.go 4 (σ' := (if r35 = (-9) then 118 else 94, [some (.ref 27), none, some (.int v2), some (.int v3), some (.int v4), some (.int v5), some (.int r35)], [], x36)) rfl ?_
            refine am_Rr.ite (fun h38 => ?_) (fun h38 => ?_)
            · rw [if_pos h38] at hF
              refine am_Rr.go 4 (σ' := (123, [some (.ref 27), none, some (.int v2), some (.int v3), some (.int v4), some (.int v5), some (.int r35)], [.int 4, .int (v4 + 1)], x36)) rfl ?_
              refine am_Rr.chk (σ' := (124, [some (.ref 27), none, some (.int v2), some (.int v3), some (.int v4), some (.int v5), some (.int r35)], [.int ((v4 + 1) - (v4 + 1) / 4 * 4)], x36)) rfl (by decide) ?_
              refine am_Rr.go 3 (σ' := (53, [some (.ref 27), none, some (.int v2), some (.int v3), some (.int ((v4 + 1) - (v4 + 1) / 4 * 4)), some (.int (v5 + 1)), some (.int r35)], [], x36)) rfl ?_
              refine am_Rr.weak (ls0 := [some (.ref 27), none, some (.int v2), some (.int v3), some (.int ((v4 + 1) - (v4 + 1) / 4 * 4)), some (.int (v5 + 1)), none]) (by simp [am_le]) ?_
              exact ih _ _ _ _ _ hF hk
            · rw [if_neg h38] at hF
              refine am_Rr.go 2 (σ' := (97, [some (.ref 27), none, some (.int v2), some (.int v3), some (.int v4), some (.int v5), some (.int r35)], [.int r35, .ref 27], x36)) rfl ?_
              cases g41 : G_X8_canBe r35 x36 with
              | none => rw [g41] at hF; cases hF
              | some q_ =>
                obtain ⟨r39, x40⟩ := q_
                rw [g41] at hF
                dsimp only at hF
                refine am_Rr.call (pc := 100) (ls := [some (.ref 27), none, some (.int v2), some (.int v3), some (.int v4), some (.int v5), some (.int r35)]) (st := []) rfl (A_X8_canBe d g41) ?_
                rintro _ _ ⟨rfl, rfl⟩
                show am_Rr _ _ (100, [some (.ref 27), none, some (.int v2), some (.int v3), some (.int v4), some (.int v5), some (.int r35)], [.int r39], x40) _
                refine am_Rr.go 1 (σ' := (if r39 = 0 then 118 else 103, [some (.ref 27), none, some (.int v2), some (.int v3), some (.int v4), some (.int v5), some (.int r35)], [], x40)) rfl ?_
                refine am_Rr.ite (fun h42 => ?_) (fun h42 => ?_)
                · rw [if_pos h42] at hF
                  refine am_Rr.go 4 (σ' := (123, [some (.ref 27), none, some (.int v2), some (.int v3), some (.int v4), some (.int v5), some (.int r35)], [.int 4, .int (v4 + 1)], x40)) rfl ?_
                  refine am_Rr.chk (σ' := (124, [some (.ref 27), none, some (.int v2), some (.int v3), some (.int v4), some (.int v5), some (.int r35)], [.int ((v4 + 1) - (v4 + 1) / 4 * 4)], x40)) rfl (by decide) ?_
                  refine am_Rr.go 3 (σ' := (53, [some (.ref 27), none, some (.int v2), some (.int v3), some (.int ((v4 + 1) - (v4 + 1) / 4 * 4)), some (.int (v5 + 1)), some (.int r35)], [], x40)) rfl ?_
                  refine am_Rr.weak (ls0 := [some (.ref 27), none, some (.int v2), some (.int v3), some (.int ((v4 + 1) - (v4 + 1) / 4 * 4)), some (.int (v5 + 1)), none]) (by simp [am_le]) ?_
                  exact ih _ _ _ _ _ hF hk
                · rw [if_neg h42] at hF
                  refine am_Rr.go 2 (σ' := (105, [some (.ref 27), none, some (.int v2), some (.int v3), some (.int v4), some (.int v5), some (.int r35)], [.int v3, .ref 27], x40)) rfl ?_
                  cases g45 : G_X8_kindOf v3 x40 with
                  | none => rw [g45] at hF; cases hF
                  | some q_ =>
                    obtain ⟨r43, x44⟩ := q_
                    rw [g45] at hF
                    dsimp only at hF
                    refine am_Rr.call (pc := 108) (ls := [some (.ref 27), none, some (.int v2), some (.int v3), some (.int v4), some (.int v5), some (.int r35)]) (st := []) rfl (A_X8_kindOf (d + 1) g45) ?_
                    rintro _ _ ⟨rfl, rfl⟩
                    show am_Rr _ _ (108, [some (.ref 27), none, some (.int v2), some (.int v3), some (.int v4), some (.int v5), some (.int r35)], [.int r43], x44) _
                    refine am_Rr.go 2 (σ' := (if r43 = 5 then 118 else 112, [some (.ref 27), none, some (.int v2), some (.int v3), some (.int v4), some (.int v5), some (.int r35)], [], x44)) rfl ?_
                    refine am_Rr.ite (fun h46 => ?_) (fun h46 => ?_)
                    · rw [if_pos h46] at hF
                      refine am_Rr.go 4 (σ' := (123, [some (.ref 27), none, some (.int v2), some (.int v3), some (.int v4), some (.int v5), some (.int r35)], [.int 4, .int (v4 + 1)], x44)) rfl ?_
                      refine am_Rr.chk (σ' := (124, [some (.ref 27), none, some (.int v2), some (.int v3), some (.int v4), some (.int v5), some (.int r35)], [.int ((v4 + 1) - (v4 + 1) / 4 * 4)], x44)) rfl (by decide) ?_
                      refine am_Rr.go 3 (σ' := (53, [some (.ref 27), none, some (.int v2), some (.int v3), some (.int ((v4 + 1) - (v4 + 1) / 4 * 4)), some (.int (v5 + 1)), some (.int r35)], [], x44)) rfl ?_
                      refine am_Rr.weak (ls0 := [some (.ref 27), none, some (.int v2), some (.int v3), some (.int ((v4 + 1) - (v4 + 1) / 4 * 4)), some (.int (v5 + 1)), none]) (by simp [am_le]) ?_
                      exact ih _ _ _ _ _ hF hk
                    · rw [if_neg h46] at hF
                      refine am_Rr.go 5 (σ' := (53, [some (.ref 27), none, some (.int v2), some (.int r35), some (.int v4), some (.int (v5 + 1)), some (.int r35)], [], x44)) rfl ?_
                      refine am_Rr.weak (ls0 := [some (.ref 27), none, some (.int v2), some (.int r35), some (.int v4), some (.int (v5 + 1)), none]) (by simp [am_le]) ?_
                      exact ih _ _ _ _ _ hF hk
noncomputable def G_X8_turning (a : Int32) (b : Int32) (x : am_X) : Option (Int32 × am_X) := (if a < 0 then (match G_X8_no (-2 : Int32) x with | none => none | some (r2, x3) => some (r2, x3)) else (if a ≤ 3 then (if (0 : Int32) ≤ b then (if b ≤ 99 then (match L_X8_turning_53 1000 b ((x.2.2.1 29) 0) a (0 : Int32) x with | none => none | some (v48, v49, v50, v51, x47) => some (v49, x47)) else (match G_X8_no (-6 : Int32) x with | none => none | some (r53, x54) => some (r53, x54))) else (match G_X8_no (-4 : Int32) x with | none => none | some (r56, x57) => some (r56, x57))) else (match G_X8_no (-2 : Int32) x with | none => none | some (r59, x60) => some (r59, x60))))
theorem A_X8_turning (d : Nat) {a : Int32} {b : Int32} {x : am_X} {res : Int32 × am_X} (hF : G_X8_turning a b x = some res) : am_T (d + 4) mX8_turning [.ref 27, .int a, .int b] x (fun ro y => ro = some (.int res.1) ∧ res.2 = y) := by
  refine am_T.of rfl ?_
  show am_Rr (d + 3) kX8_turning (0, [some (.ref 27), some (.int a), some (.int b), none, none, none, none], [], x) _
  unfold G_X8_turning at hF
  refine am_Rr.go 2 (σ' := (if a < 0 then 9 else 4, [some (.ref 27), some (.int a), some (.int b), none, none, none, none], [], x)) rfl ?_
  refine am_Rr.ite (fun h1 => ?_) (fun h1 => ?_)
  · rw [if_pos h1] at hF
    refine am_Rr.go 2 (σ' := (12, [some (.ref 27), some (.int a), some (.int b), none, none, none, none], [.int (-2), .ref 27], x)) rfl ?_
    cases g4 : G_X8_no (-2 : Int32) x with
    | none => rw [g4] at hF; cases hF
    | some q_ =>
      obtain ⟨r2, x3⟩ := q_
      rw [g4] at hF
      dsimp only at hF
      refine am_Rr.call (pc := 15) (ls := [some (.ref 27), some (.int a), some (.int b), none, none, none, none]) (st := []) rfl (A_X8_no (d + 1) g4) ?_
      rintro _ _ ⟨rfl, rfl⟩
      show am_Rr _ _ (15, [some (.ref 27), some (.int a), some (.int b), none, none, none, none], [.int r2], x3) _
      obtain rfl := Option.some.inj hF
      exact am_Rr.ret (v := some (.int r2)) (x := x3) rfl (by trivial) ⟨rfl, rfl⟩
  · rw [if_neg h1] at hF
    refine am_Rr.go 3 (σ' := (if a ≤ 3 then 16 else 9, [some (.ref 27), some (.int a), some (.int b), none, none, none, none], [], x)) rfl ?_
    refine am_Rr.ite (fun h5 => ?_) (fun h5 => ?_)
    · rw [if_pos h5] at hF
      refine am_Rr.go 2 (σ' := (if (0 : Int32) ≤ b then 27 else 20, [some (.ref 27), some (.int a), some (.int b), none, none, none, none], [], x)) rfl ?_
      refine am_Rr.ite (fun h6 => ?_) (fun h6 => ?_)
      · rw [if_pos h6] at hF
        refine am_Rr.go 3 (σ' := (if b ≤ 99 then 40 else 33, [some (.ref 27), some (.int a), some (.int b), none, none, none, none], [], x)) rfl ?_
        refine am_Rr.ite (fun h7 => ?_) (fun h7 => ?_)
        · rw [if_pos h7] at hF
          refine am_Rr.go 3 (σ' := (45, [some (.ref 27), some (.int a), some (.int b), none, none, none, none], [.int 0, .ref 29], x)) rfl ?_
          refine am_Rr.chk (σ' := (46, [some (.ref 27), some (.int a), some (.int b), none, none, none, none], [.int ((x.2.2.1 29) 0)], x)) rfl (by unfold vp_in; decide) ?_
          refine am_Rr.go 5 (σ' := (53, [some (.ref 27), some (.int a), some (.int b), some (.int ((x.2.2.1 29) 0)), some (.int a), some (.int 0), none], [], x)) rfl ?_
          refine am_Rr.weak (ls0 := [some (.ref 27), none, some (.int b), some (.int ((x.2.2.1 29) 0)), some (.int a), some (.int 0), none]) (by simp [am_le]) ?_
          cases g52 : L_X8_turning_53 1000 b ((x.2.2.1 29) 0) a (0 : Int32) x with
          | none => rw [g52] at hF; cases hF
          | some q_ =>
            obtain ⟨v48, v49, v50, v51, x47⟩ := q_
            rw [g52] at hF
            dsimp only at hF
            refine L_X8_turning_53_ok d _ v48 v49 v50 v51 x47 _ _ _ _ _ _ g52 ?_
            refine am_Rr.go 1 (σ' := (133, [some (.ref 27), none, some (.int v48), some (.int v49), some (.int v50), some (.int v51), none], [.int v49], x47)) rfl ?_
            obtain rfl := Option.some.inj hF
            exact am_Rr.ret (v := some (.int v49)) (x := x47) rfl (by trivial) ⟨rfl, rfl⟩
        · rw [if_neg h7] at hF
          refine am_Rr.go 2 (σ' := (36, [some (.ref 27), some (.int a), some (.int b), none, none, none, none], [.int (-6), .ref 27], x)) rfl ?_
          cases g55 : G_X8_no (-6 : Int32) x with
          | none => rw [g55] at hF; cases hF
          | some q_ =>
            obtain ⟨r53, x54⟩ := q_
            rw [g55] at hF
            dsimp only at hF
            refine am_Rr.call (pc := 39) (ls := [some (.ref 27), some (.int a), some (.int b), none, none, none, none]) (st := []) rfl (A_X8_no (d + 1) g55) ?_
            rintro _ _ ⟨rfl, rfl⟩
            show am_Rr _ _ (39, [some (.ref 27), some (.int a), some (.int b), none, none, none, none], [.int r53], x54) _
            obtain rfl := Option.some.inj hF
            exact am_Rr.ret (v := some (.int r53)) (x := x54) rfl (by trivial) ⟨rfl, rfl⟩
      · rw [if_neg h6] at hF
        refine am_Rr.go 2 (σ' := (23, [some (.ref 27), some (.int a), some (.int b), none, none, none, none], [.int (-4), .ref 27], x)) rfl ?_
        cases g58 : G_X8_no (-4 : Int32) x with
        | none => rw [g58] at hF; cases hF
        | some q_ =>
          obtain ⟨r56, x57⟩ := q_
          rw [g58] at hF
          dsimp only at hF
          refine am_Rr.call (pc := 26) (ls := [some (.ref 27), some (.int a), some (.int b), none, none, none, none]) (st := []) rfl (A_X8_no (d + 1) g58) ?_
          rintro _ _ ⟨rfl, rfl⟩
          show am_Rr _ _ (26, [some (.ref 27), some (.int a), some (.int b), none, none, none, none], [.int r56], x57) _
          obtain rfl := Option.some.inj hF
          exact am_Rr.ret (v := some (.int r56)) (x := x57) rfl (by trivial) ⟨rfl, rfl⟩
    · rw [if_neg h5] at hF
      refine am_Rr.go 2 (σ' := (12, [some (.ref 27), some (.int a), some (.int b), none, none, none, none], [.int (-2), .ref 27], x)) rfl ?_
      cases g61 : G_X8_no (-2 : Int32) x with
      | none => rw [g61] at hF; cases hF
      | some q_ =>
        obtain ⟨r59, x60⟩ := q_
        rw [g61] at hF
        dsimp only at hF
        refine am_Rr.call (pc := 15) (ls := [some (.ref 27), some (.int a), some (.int b), none, none, none, none]) (st := []) rfl (A_X8_no (d + 1) g61) ?_
        rintro _ _ ⟨rfl, rfl⟩
        show am_Rr _ _ (15, [some (.ref 27), some (.int a), some (.int b), none, none, none, none], [.int r59], x60) _
        obtain rfl := Option.some.inj hF
        exact am_Rr.ret (v := some (.int r59)) (x := x60) rfl (by trivial) ⟨rfl, rfl⟩
noncomputable def L_X8_lots_50 : Nat → Int32 → Int32 → Int32 → Int32 → Int32 → Int32 → am_X → Option (Int32 × Int32 × Int32 × Int32 × Int32 × Int32 × am_X)
  | 0, _, _, _, _, _, _, _ => none
  | n + 1, v1, v3, v4, v5, v6, v7, x => (if (30 : Int32) ≤ v7 then some (v1, v3, v4, v5, v6, v7, x) else (match G_X8_beside v6 ((((am_nz v3) &&& 2147483647) / 256) - (((am_nz v3) &&& 2147483647) / 256) / 4 * 4) x with | none => none | some (r5, x6) => (if r5 = (-9) then L_X8_lots_50 n v1 (am_nz v3) v4 v5 v6 (v7 + 1) x6 else (match G_X8_canBe r5 x6 with | none => none | some (r9, x10) => (if r9 = 0 then L_X8_lots_50 n v1 (am_nz v3) v4 v5 v6 (v7 + 1) x10 else (match G_X8_kindOf v6 x10 with | none => none | some (r13, x14) => (if r13 = 5 then L_X8_lots_50 n v1 (am_nz v3) v4 v5 v6 (v7 + 1) x14 else L_X8_lots_50 n v1 (am_nz v3) v4 v5 r5 (v7 + 1) x14)))))))
theorem L_X8_lots_50_ok (d : Nat) (post : Option Value → am_X → Prop) (w1 : Int32) (w3 : Int32) (w4 : Int32) (w5 : Int32) (w6 : Int32) (w7 : Int32) (y : am_X) : ∀ (n : Nat) (v1 : Int32) (v3 : Int32) (v4 : Int32) (v5 : Int32) (v6 : Int32) (v7 : Int32) (x : am_X), L_X8_lots_50 n v1 v3 v4 v5 v6 v7 x = some (w1, w3, w4, w5, w6, w7, y) → am_Rr (d + 3) kX8_lots (123, [some (.ref 27), some (.int w1), none, some (.int w3), some (.int w4), some (.int w5), some (.int w6), some (.int w7), none], [], y) post → am_Rr (d + 3) kX8_lots (50, [some (.ref 27), some (.int v1), none, some (.int v3), some (.int v4), some (.int v5), some (.int v6), some (.int v7), none], [], x) post := by
  intro n
  induction n with
  | zero =>
    intro v1 v3 v4 v5 v6 v7 x hF
    cases hF
  | succ n ih =>
    intro v1 v3 v4 v5 v6 v7 x hF hk
    rw [L_X8_lots_50] at hF
    refine am_Rr.go 3 (σ' := (if (30 : Int32) ≤ v7 then 123 else 57, [some (.ref 27), some (.int v1), none, some (.int v3), some (.int v4), some (.int v5), some (.int v6), some (.int v7), none], [], x)) rfl ?_
    refine am_Rr.ite (fun h4 => ?_) (fun h4 => ?_)
    · rw [if_pos h4] at hF
      cases hF
      exact hk
    · rw [if_neg h4] at hF
      refine am_Rr.go 6 (σ' := (65, [some (.ref 27), some (.int v1), none, some (.int ((v3 * 1664525) + 1013904223)), some (.int v4), some (.int v5), some (.int v6), some (.int v7), none], [], x)) rfl ?_
      rw [← am_nz_eq]
      show am_Rr _ _ (65, [some (.ref 27), some (.int v1), none, some (.int (am_nz v3)), some (.int v4), some (.int v5), some (.int v6), some (.int v7), none], [], x) _
      refine am_Rr.go 5 (σ' := (74, [some (.ref 27), some (.int v1), none, some (.int (am_nz v3)), some (.int v4), some (.int v5), some (.int v6), some (.int v7), none], [.int 256, .int ((am_nz v3) &&& 2147483647), .int v6], x)) rfl ?_
      refine am_Rr.chk (σ' := (75, [some (.ref 27), some (.int v1), none, some (.int (am_nz v3)), some (.int v4), some (.int v5), some (.int v6), some (.int v7), none], [.int (((am_nz v3) &&& 2147483647) / 256), .int v6], x)) rfl (by decide) ?_
      refine am_Rr.go 1 (σ' := (76, [some (.ref 27), some (.int v1), none, some (.int (am_nz v3)), some (.int v4), some (.int v5), some (.int v6), some (.int v7), none], [.int 4, .int (((am_nz v3) &&& 2147483647) / 256), .int v6], x)) rfl ?_
      refine am_Rr.chk (σ' := (77, [some (.ref 27), some (.int v1), none, some (.int (am_nz v3)), some (.int v4), some (.int v5), some (.int v6), some (.int v7), none], [.int ((((am_nz v3) &&& 2147483647) / 256) - (((am_nz v3) &&& 2147483647) / 256) / 4 * 4), .int v6], x)) rfl (by decide) ?_
      cases g7 : G_X8_beside v6 ((((am_nz v3) &&& 2147483647) / 256) - (((am_nz v3) &&& 2147483647) / 256) / 4 * 4) x with
      | none => rw [g7] at hF; cases hF
      | some q_ =>
        obtain ⟨r5, x6⟩ := q_
        rw [g7] at hF
        dsimp only at hF
        refine am_Rr.call (pc := 80) (ls := [some (.ref 27), some (.int v1), none, some (.int (am_nz v3)), some (.int v4), some (.int v5), some (.int v6), some (.int v7), none]) (st := []) rfl (A_X8_beside (d + 1) g7) ?_
        rintro _ _ ⟨rfl, rfl⟩
        show am_Rr _ _ (80, [some (.ref 27), some (.int v1), none, some (.int (am_nz v3)), some (.int v4), some (.int v5), some (.int v6), some (.int v7), none], [.int r5], x6) _
        refine am_Rr.go 4 (σ' := (if r5 = (-9) then 113 else 89, [some (.ref 27), some (.int v1), none, some (.int (am_nz v3)), some (.int v4), some (.int v5), some (.int v6), some (.int v7), some (.int r5)], [], x6)) rfl ?_
        refine am_Rr.ite (fun h8 => ?_) (fun h8 => ?_)
        · rw [if_pos h8] at hF
          refine am_Rr.go 4 (σ' := (50, [some (.ref 27), some (.int v1), none, some (.int (am_nz v3)), some (.int v4), some (.int v5), some (.int v6), some (.int (v7 + 1)), some (.int r5)], [], x6)) rfl ?_
          refine am_Rr.weak (ls0 := [some (.ref 27), some (.int v1), none, some (.int (am_nz v3)), some (.int v4), some (.int v5), some (.int v6), some (.int (v7 + 1)), none]) (by simp [am_le]) ?_
          exact ih _ _ _ _ _ _ _ hF hk
        · rw [if_neg h8] at hF
          refine am_Rr.go 2 (σ' := (92, [some (.ref 27), some (.int v1), none, some (.int (am_nz v3)), some (.int v4), some (.int v5), some (.int v6), some (.int v7), some (.int r5)], [.int r5, .ref 27], x6)) rfl ?_
          cases g11 : G_X8_canBe r5 x6 with
          | none => rw [g11] at hF; cases hF
          | some q_ =>
            obtain ⟨r9, x10⟩ := q_
            rw [g11] at hF
            dsimp only at hF
            refine am_Rr.call (pc := 95) (ls := [some (.ref 27), some (.int v1), none, some (.int (am_nz v3)), some (.int v4), some (.int v5), some (.int v6), some (.int v7), some (.int r5)]) (st := []) rfl (A_X8_canBe d g11) ?_
            rintro _ _ ⟨rfl, rfl⟩
            show am_Rr _ _ (95, [some (.ref 27), some (.int v1), none, some (.int (am_nz v3)), some (.int v4), some (.int v5), some (.int v6), some (.int v7), some (.int r5)], [.int r9], x10) _
            refine am_Rr.go 1 (σ' := (if r9 = 0 then 113 else 98, [some (.ref 27), some (.int v1), none, some (.int (am_nz v3)), some (.int v4), some (.int v5), some (.int v6), some (.int v7), some (.int r5)], [], x10)) rfl ?_
            refine am_Rr.ite (fun h12 => ?_) (fun h12 => ?_)
            · rw [if_pos h12] at hF
              refine am_Rr.go 4 (σ' := (50, [some (.ref 27), some (.int v1), none, some (.int (am_nz v3)), some (.int v4), some (.int v5), some (.int v6), some (.int (v7 + 1)), some (.int r5)], [], x10)) rfl ?_
              refine am_Rr.weak (ls0 := [some (.ref 27), some (.int v1), none, some (.int (am_nz v3)), some (.int v4), some (.int v5), some (.int v6), some (.int (v7 + 1)), none]) (by simp [am_le]) ?_
              exact ih _ _ _ _ _ _ _ hF hk
            · rw [if_neg h12] at hF
              refine am_Rr.go 2 (σ' := (101, [some (.ref 27), some (.int v1), none, some (.int (am_nz v3)), some (.int v4), some (.int v5), some (.int v6), some (.int v7), some (.int r5)], [.int v6, .ref 27], x10)) rfl ?_
              cases g15 : G_X8_kindOf v6 x10 with
              | none => rw [g15] at hF; cases hF
              | some q_ =>
                obtain ⟨r13, x14⟩ := q_
                rw [g15] at hF
                dsimp only at hF
                refine am_Rr.call (pc := 104) (ls := [some (.ref 27), some (.int v1), none, some (.int (am_nz v3)), some (.int v4), some (.int v5), some (.int v6), some (.int v7), some (.int r5)]) (st := []) rfl (A_X8_kindOf (d + 1) g15) ?_
                rintro _ _ ⟨rfl, rfl⟩
                show am_Rr _ _ (104, [some (.ref 27), some (.int v1), none, some (.int (am_nz v3)), some (.int v4), some (.int v5), some (.int v6), some (.int v7), some (.int r5)], [.int r13], x14) _
                refine am_Rr.go 2 (σ' := (if r13 = 5 then 113 else 108, [some (.ref 27), some (.int v1), none, some (.int (am_nz v3)), some (.int v4), some (.int v5), some (.int v6), some (.int v7), some (.int r5)], [], x14)) rfl ?_
                refine am_Rr.ite (fun h16 => ?_) (fun h16 => ?_)
                · rw [if_pos h16] at hF
                  refine am_Rr.go 4 (σ' := (50, [some (.ref 27), some (.int v1), none, some (.int (am_nz v3)), some (.int v4), some (.int v5), some (.int v6), some (.int (v7 + 1)), some (.int r5)], [], x14)) rfl ?_
                  refine am_Rr.weak (ls0 := [some (.ref 27), some (.int v1), none, some (.int (am_nz v3)), some (.int v4), some (.int v5), some (.int v6), some (.int (v7 + 1)), none]) (by simp [am_le]) ?_
                  exact ih _ _ _ _ _ _ _ hF hk
                · rw [if_neg h16] at hF
                  refine am_Rr.go 5 (σ' := (50, [some (.ref 27), some (.int v1), none, some (.int (am_nz v3)), some (.int v4), some (.int v5), some (.int r5), some (.int (v7 + 1)), some (.int r5)], [], x14)) rfl ?_
                  refine am_Rr.weak (ls0 := [some (.ref 27), some (.int v1), none, some (.int (am_nz v3)), some (.int v4), some (.int v5), some (.int r5), some (.int (v7 + 1)), none]) (by simp [am_le]) ?_
                  exact ih _ _ _ _ _ _ _ hF hk
noncomputable def L_X8_lots_33 : Nat → Int32 → Int32 → Int32 → Int32 → am_X → Option (Int32 × Int32 × Int32 × Int32 × am_X)
  | 0, _, _, _, _, _ => none
  | n + 1, v1, v3, v4, v5, x => (if v1 ≤ v5 then some (v1, v3, v4, v5, x) else (match L_X8_lots_50 1000 v1 v3 v4 v5 ((x.2.2.1 29) 0) (0 : Int32) x with | none => none | some (v18, v19, v20, v21, v22, v23, x17) => (match G_X8_kindOf v22 x17 with | none => none | some (r25, x26) => (if r25 = 5 then L_X8_lots_33 n v18 v19 (v20 + 1) (v21 + 1) x26 else L_X8_lots_33 n v18 v19 (v20 + 0) (v21 + 1) x26))))
theorem L_X8_lots_33_ok (d : Nat) (post : Option Value → am_X → Prop) (w1 : Int32) (w3 : Int32) (w4 : Int32) (w5 : Int32) (y : am_X) : ∀ (n : Nat) (v1 : Int32) (v3 : Int32) (v4 : Int32) (v5 : Int32) (x : am_X), L_X8_lots_33 n v1 v3 v4 v5 x = some (w1, w3, w4, w5, y) → am_Rr (d + 3) kX8_lots (149, [some (.ref 27), some (.int w1), none, some (.int w3), some (.int w4), some (.int w5), none, none, none], [], y) post → am_Rr (d + 3) kX8_lots (33, [some (.ref 27), some (.int v1), none, some (.int v3), some (.int v4), some (.int v5), none, none, none], [], x) post := by
  intro n
  induction n with
  | zero =>
    intro v1 v3 v4 v5 x hF
    cases hF
  | succ n ih =>
    intro v1 v3 v4 v5 x hF hk
    rw [L_X8_lots_33] at hF
    refine am_Rr.go 3 (σ' := (if v1 ≤ v5 then 149 else 39, [some (.ref 27), some (.int v1), none, some (.int v3), some (.int v4), some (.int v5), none, none, none], [], x)) rfl ?_
    refine am_Rr.ite (fun h3 => ?_) (fun h3 => ?_)
    · rw [if_pos h3] at hF
      cases hF
      exact hk
    · rw [if_neg h3] at hF
      refine am_Rr.go 3 (σ' := (44, [some (.ref 27), some (.int v1), none, some (.int v3), some (.int v4), some (.int v5), none, none, none], [.int 0, .ref 29], x)) rfl ?_
      refine am_Rr.chk (σ' := (45, [some (.ref 27), some (.int v1), none, some (.int v3), some (.int v4), some (.int v5), none, none, none], [.int ((x.2.2.1 29) 0)], x)) rfl (by unfold vp_in; decide) ?_
      refine am_Rr.go 3 (σ' := (50, [some (.ref 27), some (.int v1), none, some (.int v3), some (.int v4), some (.int v5), some (.int ((x.2.2.1 29) 0)), some (.int 0), none], [], x)) rfl ?_
      cases g24 : L_X8_lots_50 1000 v1 v3 v4 v5 ((x.2.2.1 29) 0) (0 : Int32) x with
      | none => rw [g24] at hF; cases hF
      | some q_ =>
        obtain ⟨v18, v19, v20, v21, v22, v23, x17⟩ := q_
        rw [g24] at hF
        dsimp only at hF
        refine L_X8_lots_50_ok d _ v18 v19 v20 v21 v22 v23 x17 _ _ _ _ _ _ _ _ g24 ?_
        refine am_Rr.go 3 (σ' := (128, [some (.ref 27), some (.int v18), none, some (.int v19), some (.int v20), some (.int v21), some (.int v22), some (.int v23), none], [.int v22, .ref 27, .int v20], x17)) rfl ?_
        cases g27 : G_X8_kindOf v22 x17 with
        | none => rw [g27] at hF; cases hF
        | some q_ =>
          obtain ⟨r25, x26⟩ := q_
          rw [g27] at hF
          dsimp only at hF
          refine am_Rr.call (pc := 131) (ls := [some (.ref 27), some (.int v18), none, some (.int v19), some (.int v20), some (.int v21), some (.int v22), some (.int v23), none]) (st := [.int v20]) rfl (A_X8_kindOf (d + 1) g27) ?_
          rintro _ _ ⟨rfl, rfl⟩
          show am_Rr _ _ (131, [some (.ref 27), some (.int v18), none, some (.int v19), some (.int v20), some (.int v21), some (.int v22), some (.int v23), none], [.int r25, .int v20], x26) _
          refine am_Rr.go 2 (σ' := (if r25 = 5 then 135 else 139, [some (.ref 27), some (.int v18), none, some (.int v19), some (.int v20), some (.int v21), some (.int v22), some (.int v23), none], [.int v20], x26)) rfl ?_
          refine am_Rr.ite (fun h28 => ?_) (fun h28 => ?_)
          · rw [if_pos h28] at hF
            refine am_Rr.go 6 (σ' := (33, [some (.ref 27), some (.int v18), none, some (.int v19), some (.int (v20 + 1)), some (.int (v21 + 1)), some (.int v22), some (.int v23), none], [], x26)) rfl ?_
            refine am_Rr.weak (ls0 := [some (.ref 27), some (.int v18), none, some (.int v19), some (.int (v20 + 1)), some (.int (v21 + 1)), none, none, none]) (by simp [am_le]) ?_
            exact ih _ _ _ _ _ hF hk
          · rw [if_neg h28] at hF
            refine am_Rr.go 5 (σ' := (33, [some (.ref 27), some (.int v18), none, some (.int v19), some (.int (v20 + 0)), some (.int (v21 + 1)), some (.int v22), some (.int v23), none], [], x26)) rfl ?_
            refine am_Rr.weak (ls0 := [some (.ref 27), some (.int v18), none, some (.int v19), some (.int (v20 + 0)), some (.int (v21 + 1)), none, none, none]) (by simp [am_le]) ?_
            exact ih _ _ _ _ _ hF hk
noncomputable def G_X8_lots (a : Int32) (b : Int32) (x : am_X) : Option (Int32 × am_X) := (if (1 : Int32) ≤ a then (if a ≤ 20 then (match L_X8_lots_33 1000 a b (0 : Int32) (0 : Int32) x with | none => none | some (v30, v31, v32, v33, x29) => some (v32, x29)) else (match G_X8_no (-6 : Int32) x with | none => none | some (r35, x36) => some (r35, x36))) else (match G_X8_no (-4 : Int32) x with | none => none | some (r38, x39) => some (r38, x39)))
theorem A_X8_lots (d : Nat) {a : Int32} {b : Int32} {x : am_X} {res : Int32 × am_X} (hF : G_X8_lots a b x = some res) : am_T (d + 4) mX8_lots [.ref 27, .int a, .int b] x (fun ro y => ro = some (.int res.1) ∧ res.2 = y) := by
  refine am_T.of rfl ?_
  show am_Rr (d + 3) kX8_lots (0, [some (.ref 27), some (.int a), some (.int b), none, none, none, none, none, none], [], x) _
  unfold G_X8_lots at hF
  refine am_Rr.go 3 (σ' := (if (1 : Int32) ≤ a then 12 else 5, [some (.ref 27), some (.int a), some (.int b), none, none, none, none, none, none], [], x)) rfl ?_
  refine am_Rr.ite (fun h1 => ?_) (fun h1 => ?_)
  · rw [if_pos h1] at hF
    refine am_Rr.go 3 (σ' := (if a ≤ 20 then 25 else 18, [some (.ref 27), some (.int a), some (.int b), none, none, none, none, none, none], [], x)) rfl ?_
    refine am_Rr.ite (fun h2 => ?_) (fun h2 => ?_)
    · rw [if_pos h2] at hF
      refine am_Rr.go 6 (σ' := (33, [some (.ref 27), some (.int a), some (.int b), some (.int b), some (.int 0), some (.int 0), none, none, none], [], x)) rfl ?_
      refine am_Rr.weak (ls0 := [some (.ref 27), some (.int a), none, some (.int b), some (.int 0), some (.int 0), none, none, none]) (by simp [am_le]) ?_
      cases g34 : L_X8_lots_33 1000 a b (0 : Int32) (0 : Int32) x with
      | none => rw [g34] at hF; cases hF
      | some q_ =>
        obtain ⟨v30, v31, v32, v33, x29⟩ := q_
        rw [g34] at hF
        dsimp only at hF
        refine L_X8_lots_33_ok d _ v30 v31 v32 v33 x29 _ _ _ _ _ _ g34 ?_
        refine am_Rr.go 1 (σ' := (151, [some (.ref 27), some (.int v30), none, some (.int v31), some (.int v32), some (.int v33), none, none, none], [.int v32], x29)) rfl ?_
        obtain rfl := Option.some.inj hF
        exact am_Rr.ret (v := some (.int v32)) (x := x29) rfl (by trivial) ⟨rfl, rfl⟩
    · rw [if_neg h2] at hF
      refine am_Rr.go 2 (σ' := (21, [some (.ref 27), some (.int a), some (.int b), none, none, none, none, none, none], [.int (-6), .ref 27], x)) rfl ?_
      cases g37 : G_X8_no (-6 : Int32) x with
      | none => rw [g37] at hF; cases hF
      | some q_ =>
        obtain ⟨r35, x36⟩ := q_
        rw [g37] at hF
        dsimp only at hF
        refine am_Rr.call (pc := 24) (ls := [some (.ref 27), some (.int a), some (.int b), none, none, none, none, none, none]) (st := []) rfl (A_X8_no (d + 1) g37) ?_
        rintro _ _ ⟨rfl, rfl⟩
        show am_Rr _ _ (24, [some (.ref 27), some (.int a), some (.int b), none, none, none, none, none, none], [.int r35], x36) _
        obtain rfl := Option.some.inj hF
        exact am_Rr.ret (v := some (.int r35)) (x := x36) rfl (by trivial) ⟨rfl, rfl⟩
  · rw [if_neg h1] at hF
    refine am_Rr.go 2 (σ' := (8, [some (.ref 27), some (.int a), some (.int b), none, none, none, none, none, none], [.int (-4), .ref 27], x)) rfl ?_
    cases g40 : G_X8_no (-4 : Int32) x with
    | none => rw [g40] at hF; cases hF
    | some q_ =>
      obtain ⟨r38, x39⟩ := q_
      rw [g40] at hF
      dsimp only at hF
      refine am_Rr.call (pc := 11) (ls := [some (.ref 27), some (.int a), some (.int b), none, none, none, none, none, none]) (st := []) rfl (A_X8_no (d + 1) g40) ?_
      rintro _ _ ⟨rfl, rfl⟩
      show am_Rr _ _ (11, [some (.ref 27), some (.int a), some (.int b), none, none, none, none, none, none], [.int r38], x39) _
      obtain rfl := Option.some.inj hF
      exact am_Rr.ret (v := some (.int r38)) (x := x39) rfl (by trivial) ⟨rfl, rfl⟩
