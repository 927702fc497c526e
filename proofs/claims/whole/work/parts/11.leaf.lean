/-! leaves of the class: laid by wip/whole/p11.py -/
def am_lushr (a : Int64) (b : Int32) : Int64 := (a.toUInt64 >>> (b.toInt64.toUInt64 &&& Int64.toUInt64 63)).toInt64
def am_iushr (a b : Int32) : Int32 := (a.toUInt32 >>> (b.toUInt32 &&& Int32.toUInt32 31)).toInt32
theorem am_nm2000 : (-2000 : Int32).toInt = -2000 := by decide
theorem am_nm1000 : (-1000 : Int32).toInt = -1000 := by decide
theorem am_nm9 : (-9 : Int32).toInt = -9 := by decide
theorem am_nm6 : (-6 : Int32).toInt = -6 := by decide
theorem am_nm5 : (-5 : Int32).toInt = -5 := by decide
theorem am_nm4 : (-4 : Int32).toInt = -4 := by decide
theorem am_nm3 : (-3 : Int32).toInt = -3 := by decide
theorem am_nm2 : (-2 : Int32).toInt = -2 := by decide
theorem am_nm1 : (-1 : Int32).toInt = -1 := by decide
theorem am_n0 : (0 : Int32).toInt = 0 := by decide
theorem am_n1 : (1 : Int32).toInt = 1 := by decide
theorem am_n2 : (2 : Int32).toInt = 2 := by decide
theorem am_n3 : (3 : Int32).toInt = 3 := by decide
theorem am_n4 : (4 : Int32).toInt = 4 := by decide
theorem am_n5 : (5 : Int32).toInt = 5 := by decide
theorem am_n6 : (6 : Int32).toInt = 6 := by decide
theorem am_n7 : (7 : Int32).toInt = 7 := by decide
theorem am_n8 : (8 : Int32).toInt = 8 := by decide
theorem am_n9 : (9 : Int32).toInt = 9 := by decide
theorem am_n10 : (10 : Int32).toInt = 10 := by decide
theorem am_n11 : (11 : Int32).toInt = 11 := by decide
theorem am_n12 : (12 : Int32).toInt = 12 := by decide
theorem am_n20 : (20 : Int32).toInt = 20 := by decide
theorem am_n21 : (21 : Int32).toInt = 21 := by decide
theorem am_n30 : (30 : Int32).toInt = 30 := by decide
theorem am_n35 : (35 : Int32).toInt = 35 := by decide
theorem am_n36 : (36 : Int32).toInt = 36 := by decide
theorem am_n48 : (48 : Int32).toInt = 48 := by decide
theorem am_n57 : (57 : Int32).toInt = 57 := by decide
theorem am_n58 : (58 : Int32).toInt = 58 := by decide
theorem am_n60 : (60 : Int32).toInt = 60 := by decide
theorem am_n96 : (96 : Int32).toInt = 96 := by decide
theorem am_n97 : (97 : Int32).toInt = 97 := by decide
theorem am_n99 : (99 : Int32).toInt = 99 := by decide
theorem am_n200 : (200 : Int32).toInt = 200 := by decide
theorem am_n201 : (201 : Int32).toInt = 201 := by decide
theorem am_n255 : (255 : Int32).toInt = 255 := by decide
theorem am_n256 : (256 : Int32).toInt = 256 := by decide
theorem am_n999 : (999 : Int32).toInt = 999 := by decide
theorem am_n1000 : (1000 : Int32).toInt = 1000 := by decide
theorem am_n100000 : (100000 : Int32).toInt = 100000 := by decide
theorem am_n1000000 : (1000000 : Int32).toInt = 1000000 := by decide
abbrev am_sq (q : Int32) : Prop := 0 ≤ q.toInt ∧ q.toInt < 36
theorem S_isSquare (d : Nat) (q : Int32) (x : am_X) : am_T (d + 2) mX7_isSquare [.int q] x (fun ro x' => x = x' ∧ ((ro = some (.int 1) ∧ (am_sq q)) ∨ (ro = some (.int 0) ∧ ¬ (am_sq q)))) := by
  refine am_T.of rfl ?_
  show am_Rr _ kX7_isSquare (0, [some (.int q)], [], x) _
  refine am_Rr.go 2 (σ' := (if q < 0 then 14 else 4, [some (.int q)], [], x)) rfl ?_
  refine am_Rr.ite (fun h_1 => ?_) (fun h_1 => ?_)
  · refine am_Rr.go 1 (σ' := (15, [some (.int q)], [.int 0], x)) rfl ?_
    refine am_Rr.ret (v := some (.int 0)) (x := x) rfl (by first | exact Or.inl rfl | exact Or.inr rfl | assumption) ?_
    exact ⟨rfl, Or.inr ⟨rfl, by unfold am_sq; simp only [Int32.lt_iff_toInt_lt, Int32.le_iff_toInt_le, ← Int32.toInt_inj, am_nm9, am_nm6, am_nm4, am_nm3, am_nm2, am_nm1, am_n0, am_n1, am_n2, am_n3, am_n4, am_n5, am_n6, am_n7, am_n8, am_n9, am_n10, am_n11, am_n12, am_n20, am_n35, am_n36, am_n60, am_n96, am_n99, am_n255, am_n999] at *; omega⟩⟩
  · refine am_Rr.go 3 (σ' := (if (36 : Int32) ≤ q then 14 else 10, [some (.int q)], [], x)) rfl ?_
    refine am_Rr.ite (fun h_2 => ?_) (fun h_2 => ?_)
    · refine am_Rr.go 1 (σ' := (15, [some (.int q)], [.int 0], x)) rfl ?_
      refine am_Rr.ret (v := some (.int 0)) (x := x) rfl (by first | exact Or.inl rfl | exact Or.inr rfl | assumption) ?_
      exact ⟨rfl, Or.inr ⟨rfl, by unfold am_sq; simp only [Int32.lt_iff_toInt_lt, Int32.le_iff_toInt_le, ← Int32.toInt_inj, am_nm9, am_nm6, am_nm4, am_nm3, am_nm2, am_nm1, am_n0, am_n1, am_n2, am_n3, am_n4, am_n5, am_n6, am_n7, am_n8, am_n9, am_n10, am_n11, am_n12, am_n20, am_n35, am_n36, am_n60, am_n96, am_n99, am_n255, am_n999] at *; omega⟩⟩
    · refine am_Rr.go 2 (σ' := (15, [some (.int q)], [.int 1], x)) rfl ?_
      refine am_Rr.ret (v := some (.int 1)) (x := x) rfl (by first | exact Or.inl rfl | exact Or.inr rfl | assumption) ?_
      exact ⟨rfl, Or.inl ⟨rfl, by unfold am_sq; simp only [Int32.lt_iff_toInt_lt, Int32.le_iff_toInt_le, ← Int32.toInt_inj, am_nm9, am_nm6, am_nm4, am_nm3, am_nm2, am_nm1, am_n0, am_n1, am_n2, am_n3, am_n4, am_n5, am_n6, am_n7, am_n8, am_n9, am_n10, am_n11, am_n12, am_n20, am_n35, am_n36, am_n60, am_n96, am_n99, am_n255, am_n999] at *; omega⟩⟩
def am_bit (q : Int32) : Int64 := if 0 ≤ q.toInt ∧ q.toInt < 36 then (1 : Int64) <<< (q.toInt64 &&& 63) else 0
theorem S_bit (d : Nat) (q : Int32) (x : am_X) : am_T (d + 3) mX7_bit [.int q] x (fun ro x' => x = x' ∧ ro = some (.long (am_bit q))) := by
  refine am_T.of rfl ?_
  show am_Rr _ kX7_bit (0, [some (.int q)], [], x) _
  refine am_Rr.go 1 (σ' := (1, [some (.int q)], [.int q], x)) rfl ?_
  refine am_Rr.call (pc := 4) (ls := [some (.int q)]) (st := []) rfl (S_isSquare d q x) ?_
  rintro _ _ ⟨rfl, (⟨rfl, b_1⟩ | ⟨rfl, b_1⟩)⟩
  · show am_Rr _ _ (4, [some (.int q)], [.int 1], x) _
    refine am_Rr.go 5 (σ' := (14, [some (.int q)], [.long (1 <<< (q.toInt64 &&& 63))], x)) rfl ?_
    refine am_Rr.ret (v := some (.long (1 <<< (q.toInt64 &&& 63)))) (x := x) rfl (by trivial) ?_
    exact ⟨rfl, by unfold am_bit; first | rw [if_pos (by assumption)] | rw [if_neg (by assumption)]⟩
  · show am_Rr _ _ (4, [some (.int q)], [.int 0], x) _
    refine am_Rr.go 2 (σ' := (14, [some (.int q)], [.long 0], x)) rfl ?_
    refine am_Rr.ret (v := some (.long 0)) (x := x) rfl (by trivial) ?_
    exact ⟨rfl, by unfold am_bit; first | rw [if_pos (by assumption)] | rw [if_neg (by assumption)]⟩
abbrev am_hasb (w : Int64) (q : Int32) : Prop := ¬ (w &&& am_bit q) = 0
theorem am_cmp0 {a b : Int64} : lg_cmp a b = 0 ↔ a = b := by
  unfold lg_cmp
  by_cases h : a > b
  · rw [if_pos h]
    constructor
    · intro z; exact absurd z (by decide)
    · rintro rfl; exact absurd h (by simp)
  · rw [if_neg h]
    by_cases h2 : a = b
    · rw [if_pos h2]; simp [h2]
    · rw [if_neg h2]
      constructor
      · intro z; exact absurd z (by decide)
      · intro z; exact absurd z h2
theorem S_has (d : Nat) (w : Int64) (q : Int32) (x : am_X) : am_T (d + 4) mX7_has [.long w, .int q] x (fun ro x' => x = x' ∧ ((ro = some (.int 1) ∧ (am_hasb w q)) ∨ (ro = some (.int 0) ∧ ¬ (am_hasb w q)))) := by
  refine am_T.of rfl ?_
  show am_Rr _ kX7_has (0, [some (.long w), none, some (.int q)], [], x) _
  refine am_Rr.go 2 (σ' := (2, [some (.long w), none, some (.int q)], [.int q, .long w], x)) rfl ?_
  refine am_Rr.call (pc := 5) (ls := [some (.long w), none, some (.int q)]) (st := [.long w]) rfl (S_bit d q x) ?_
  rintro _ _ ⟨rfl, rfl⟩
  show am_Rr _ _ (5, [some (.long w), none, some (.int q)], [.long (am_bit q), .long w], x) _
  refine am_Rr.go 4 (σ' := (if (lg_cmp (w &&& (am_bit q)) 0) = 0 then 15 else 11, [some (.long w), none, some (.int q)], [], x)) rfl ?_
  refine am_Rr.ite (fun h_2 => ?_) (fun h_2 => ?_)
  · refine am_Rr.go 1 (σ' := (16, [some (.long w), none, some (.int q)], [.int 0], x)) rfl ?_
    refine am_Rr.ret (v := some (.int 0)) (x := x) rfl (by first | exact Or.inl rfl | exact Or.inr rfl | assumption) ?_
    exact ⟨rfl, Or.inr ⟨rfl, by unfold am_hasb; rw [am_cmp0] at h_2; simpa using h_2⟩⟩
  · refine am_Rr.go 2 (σ' := (16, [some (.long w), none, some (.int q)], [.int 1], x)) rfl ?_
    refine am_Rr.ret (v := some (.int 1)) (x := x) rfl (by first | exact Or.inl rfl | exact Or.inr rfl | assumption) ?_
    exact ⟨rfl, Or.inl ⟨rfl, by unfold am_hasb; rw [am_cmp0] at h_2; simpa using h_2⟩⟩
theorem S_yesOrNo (d : Nat) (q : Int32) (hq : q = 0 ∨ q = 1) (x : am_X) : am_T (d + 2) mX7_yesOrNo [.int q] x (fun ro x' => x = x' ∧ ro = some (.int q)) := by
  refine am_T.of rfl ?_
  show am_Rr _ kX7_yesOrNo (0, [some (.int q)], [], x) _
  refine am_Rr.go 2 (σ' := (if q = 0 then 8 else 4, [some (.int q)], [], x)) rfl ?_
  refine am_Rr.ite (fun h_1 => ?_) (fun h_1 => ?_)
  · refine am_Rr.go 1 (σ' := (9, [some (.int q)], [.int 0], x)) rfl ?_
    refine am_Rr.ret (v := some (.int 0)) (x := x) rfl (by trivial) ?_
    exact ⟨rfl, by rcases hq with rfl | rfl <;> first | rfl | (exact absurd rfl h_1) | (exact absurd h_1 (by decide))⟩
  · refine am_Rr.go 2 (σ' := (9, [some (.int q)], [.int 1], x)) rfl ?_
    refine am_Rr.ret (v := some (.int 1)) (x := x) rfl (by trivial) ?_
    exact ⟨rfl, by rcases hq with rfl | rfl <;> first | rfl | (exact absurd rfl h_1) | (exact absurd h_1 (by decide))⟩
def am_bc1 (w : Int64) : Int64 := w - (am_lushr w 1 &&& 6148914691236517205)
def am_bc2 (w : Int64) : Int64 := (am_bc1 w &&& 3689348814741910323) + (am_lushr (am_bc1 w) 2 &&& 3689348814741910323)
def am_bc3 (w : Int64) : Int64 := am_bc2 w + am_lushr (am_bc2 w) 4 &&& 1085102592571150095
def am_bc4 (w : Int64) : Int64 := am_bc3 w + am_lushr (am_bc3 w) 8
def am_bc5 (w : Int64) : Int64 := am_bc4 w + am_lushr (am_bc4 w) 16
def am_bc (w : Int64) : Int32 := (am_bc5 w + am_lushr (am_bc5 w) 32).toInt32 &&& 127
theorem S_bitCountJ (d : Nat) (w : Int64) (x : am_X) : am_T (d + 2) mJ13_bitCount_95d88 [.long w] x (fun ro x' => x = x' ∧ ro = some (.int (am_bc w))) := by
  refine am_T.of rfl ?_
  refine am_Rr.go 8 (σ' := (10, [some (.long (am_bc1 w)), none], [], x)) rfl ?_
  refine am_Rr.go 10 (σ' := (24, [some (.long (am_bc2 w)), none], [], x)) rfl ?_
  refine am_Rr.go 8 (σ' := (34, [some (.long (am_bc3 w)), none], [], x)) rfl ?_
  refine am_Rr.go 6 (σ' := (41, [some (.long (am_bc4 w)), none], [], x)) rfl ?_
  refine am_Rr.go 6 (σ' := (48, [some (.long (am_bc5 w)), none], [], x)) rfl ?_
  refine am_Rr.go 10 (σ' := (60, [some (.long (am_bc5 w + am_lushr (am_bc5 w) 32)), none], [.int (am_bc w)], x)) rfl ?_
  exact am_Rr.ret rfl trivial ⟨rfl, rfl⟩
def am_ib1 (w : Int32) : Int32 := w - (am_iushr w 1 &&& 1431655765)
def am_ib2 (w : Int32) : Int32 := (am_ib1 w &&& 858993459) + (am_iushr (am_ib1 w) 2 &&& 858993459)
def am_ib3 (w : Int32) : Int32 := am_ib2 w + am_iushr (am_ib2 w) 4 &&& 252645135
def am_ib4 (w : Int32) : Int32 := am_ib3 w + am_iushr (am_ib3 w) 8
def am_ib5 (w : Int32) : Int32 := am_ib4 w + am_iushr (am_ib4 w) 16
def am_ib (w : Int32) : Int32 := am_ib5 w &&& 63
theorem S_bitCountI (d : Nat) (w : Int32) (x : am_X) : am_T (d + 2) mJ6_bitCount_0f7a4 [.int w] x (fun ro x' => x = x' ∧ ro = some (.int (am_ib w))) := by
  refine am_T.of rfl ?_
  refine am_Rr.go 8 (σ' := (10, [some (.int (am_ib1 w))], [], x)) rfl ?_
  refine am_Rr.go 10 (σ' := (24, [some (.int (am_ib2 w))], [], x)) rfl ?_
  refine am_Rr.go 8 (σ' := (34, [some (.int (am_ib3 w))], [], x)) rfl ?_
  refine am_Rr.go 6 (σ' := (41, [some (.int (am_ib4 w))], [], x)) rfl ?_
  refine am_Rr.go 6 (σ' := (48, [some (.int (am_ib5 w))], [], x)) rfl ?_
  refine am_Rr.go 3 (σ' := (52, [some (.int (am_ib5 w))], [.int (am_ib w)], x)) rfl ?_
  exact am_Rr.ret rfl trivial ⟨rfl, rfl⟩
def am_least (w : Int64) : Int32 := if w = 0 then (-9) else am_bc ((w &&& (-w)) - 1)
theorem S_least (d : Nat) (w : Int64) (x : am_X) : am_T (d + 3) mX7_least [.long w] x (fun ro x' => x = x' ∧ ro = some (.int (am_least w))) := by
  refine am_T.of rfl ?_
  show am_Rr _ kX7_least (0, [some (.long w), none], [], x) _
  refine am_Rr.go 4 (σ' := (if (lg_cmp w 0) = 0 then 6 else 11, [some (.long w), none], [], x)) rfl ?_
  refine am_Rr.ite (fun h_1 => ?_) (fun h_1 => ?_)
  · refine am_Rr.go 2 (σ' := (20, [some (.long w), none], [.int (-9)], x)) rfl ?_
    refine am_Rr.ret (v := some (.int (-9))) (x := x) rfl (by trivial) ?_
    exact ⟨rfl, by unfold am_least; rw [am_cmp0] at h_1; first | rw [if_pos h_1] | rw [if_neg h_1]⟩
  · refine am_Rr.go 6 (σ' := (17, [some (.long w), none], [.long ((w &&& (-w)) - 1)], x)) rfl ?_
    refine am_Rr.call (pc := 20) (ls := [some (.long w), none]) (st := []) rfl (S_bitCountJ d ((w &&& (-w)) - 1) x) ?_
    rintro _ _ ⟨rfl, rfl⟩
    show am_Rr _ _ (20, [some (.long w), none], [.int (am_bc ((w &&& (-w)) - 1))], x) _
    refine am_Rr.ret (v := some (.int (am_bc ((w &&& (-w)) - 1)))) (x := x) rfl (by trivial) ?_
    exact ⟨rfl, by unfold am_least; rw [am_cmp0] at h_1; first | rw [if_pos h_1] | rw [if_neg h_1]⟩
def am_mvU (w : Int64) : Int64 := am_lushr w 6
def am_mvL (w : Int64) : Int64 := am_lushr (w &&& (-1090785346)) 1
def am_mvD (w : Int64) : Int64 := (w <<< ((6 : Int32).toInt64 &&& 63)) &&& 68719476735
def am_mvR (w : Int64) : Int64 := (w &&& (-34905131041)) <<< ((1 : Int32).toInt64 &&& 63)
def am_mv (w : Int64) (k : Int32) : Int64 := if k = 0 then am_mvU w else if k = 1 then am_mvL w else if k = 2 then am_mvD w else if k = 3 then am_mvR w else 0
def am_bes (w : Int64) : Int64 := am_mvU w ||| am_mvL w ||| am_mvD w ||| am_mvR w
theorem S_moved (d : Nat) (w : Int64) (k : Int32) (x : am_X) : am_T (d + 2) mX7_moved [.long w, .int k] x (fun ro x' => x = x' ∧ ro = some (.long (am_mv w k))) := by
  refine am_T.of rfl ?_
  show am_Rr _ kX7_moved (0, [some (.long w), none, some (.int k)], [], x) _
  refine am_Rr.go 2 (σ' := ((if k = 0 then 32 else (if k = 1 then 37 else (if k = 2 then 45 else (if k = 3 then 54 else 62)))), [some (.long w), none, some (.int k)], [], x)) rfl ?_
  refine am_Rr.ite (fun h_1 => ?_) (fun h_1 => ?_)
  · refine am_Rr.go 3 (σ' := (36, [some (.long w), none, some (.int k)], [.long (am_lushr w 6)], x)) rfl ?_
    refine am_Rr.ret (v := some (.long (am_lushr w 6))) (x := x) rfl (by trivial) ?_
    exact ⟨rfl, by unfold am_mv; simp_all <;> rfl⟩
  refine am_Rr.ite (fun h_2 => ?_) (fun h_2 => ?_)
  · refine am_Rr.go 5 (σ' := (44, [some (.long w), none, some (.int k)], [.long (am_lushr (w &&& (-1090785346)) 1)], x)) rfl ?_
    refine am_Rr.ret (v := some (.long (am_lushr (w &&& (-1090785346)) 1))) (x := x) rfl (by trivial) ?_
    exact ⟨rfl, by unfold am_mv; simp_all <;> rfl⟩
  refine am_Rr.ite (fun h_3 => ?_) (fun h_3 => ?_)
  · refine am_Rr.go 5 (σ' := (53, [some (.long w), none, some (.int k)], [.long ((w <<< ((6 : Int32).toInt64 &&& 63)) &&& 68719476735)], x)) rfl ?_
    refine am_Rr.ret (v := some (.long ((w <<< ((6 : Int32).toInt64 &&& 63)) &&& 68719476735))) (x := x) rfl (by trivial) ?_
    exact ⟨rfl, by unfold am_mv; simp_all <;> rfl⟩
  refine am_Rr.ite (fun h_4 => ?_) (fun h_4 => ?_)
  · refine am_Rr.go 5 (σ' := (61, [some (.long w), none, some (.int k)], [.long ((w &&& (-34905131041)) <<< ((1 : Int32).toInt64 &&& 63))], x)) rfl ?_
    refine am_Rr.ret (v := some (.long ((w &&& (-34905131041)) <<< ((1 : Int32).toInt64 &&& 63)))) (x := x) rfl (by trivial) ?_
    exact ⟨rfl, by unfold am_mv; simp_all <;> rfl⟩
  refine am_Rr.go 1 (σ' := (63, [some (.long w), none, some (.int k)], [.long 0], x)) rfl ?_
  refine am_Rr.ret (v := some (.long 0)) (x := x) rfl (by trivial) ?_
  exact ⟨rfl, by unfold am_mv; simp_all <;> rfl⟩
theorem S_beside (d : Nat) (w : Int64) (x : am_X) : am_T (d + 3) mX7_beside [.long w] x (fun ro x' => x = x' ∧ ro = some (.long (am_bes w))) := by
  refine am_T.of rfl ?_
  show am_Rr _ kX7_beside (0, [some (.long w), none], [], x) _
  refine am_Rr.go 2 (σ' := (2, [some (.long w), none], [.int 0, .long w], x)) rfl ?_
  refine am_Rr.call (pc := 5) (ls := [some (.long w), none]) (st := []) rfl (S_moved d w (0 : Int32) x) ?_
  rintro _ _ ⟨rfl, rfl⟩
  show am_Rr _ _ (5, [some (.long w), none], [.long (am_mv w (0 : Int32))], x) _
  refine am_Rr.go 2 (σ' := (7, [some (.long w), none], [.int 1, .long w, .long (am_mv w (0 : Int32))], x)) rfl ?_
  refine am_Rr.call (pc := 10) (ls := [some (.long w), none]) (st := [.long (am_mv w (0 : Int32))]) rfl (S_moved d w (1 : Int32) x) ?_
  rintro _ _ ⟨rfl, rfl⟩
  show am_Rr _ _ (10, [some (.long w), none], [.long (am_mv w (1 : Int32)), .long (am_mv w (0 : Int32))], x) _
  refine am_Rr.go 3 (σ' := (13, [some (.long w), none], [.int 2, .long w, .long ((am_mv w (0 : Int32)) ||| (am_mv w (1 : Int32)))], x)) rfl ?_
  refine am_Rr.call (pc := 16) (ls := [some (.long w), none]) (st := [.long ((am_mv w (0 : Int32)) ||| (am_mv w (1 : Int32)))]) rfl (S_moved d w (2 : Int32) x) ?_
  rintro _ _ ⟨rfl, rfl⟩
  show am_Rr _ _ (16, [some (.long w), none], [.long (am_mv w (2 : Int32)), .long ((am_mv w (0 : Int32)) ||| (am_mv w (1 : Int32)))], x) _
  refine am_Rr.go 3 (σ' := (19, [some (.long w), none], [.int 3, .long w, .long (((am_mv w (0 : Int32)) ||| (am_mv w (1 : Int32))) ||| (am_mv w (2 : Int32)))], x)) rfl ?_
  refine am_Rr.call (pc := 22) (ls := [some (.long w), none]) (st := [.long (((am_mv w (0 : Int32)) ||| (am_mv w (1 : Int32))) ||| (am_mv w (2 : Int32)))]) rfl (S_moved d w (3 : Int32) x) ?_
  rintro _ _ ⟨rfl, rfl⟩
  show am_Rr _ _ (22, [some (.long w), none], [.long (am_mv w (3 : Int32)), .long (((am_mv w (0 : Int32)) ||| (am_mv w (1 : Int32))) ||| (am_mv w (2 : Int32)))], x) _
  refine am_Rr.go 1 (σ' := (23, [some (.long w), none], [.long ((((am_mv w (0 : Int32)) ||| (am_mv w (1 : Int32))) ||| (am_mv w (2 : Int32))) ||| (am_mv w (3 : Int32)))], x)) rfl ?_
  refine am_Rr.ret (v := some (.long ((((am_mv w (0 : Int32)) ||| (am_mv w (1 : Int32))) ||| (am_mv w (2 : Int32))) ||| (am_mv w (3 : Int32))))) (x := x) rfl (by trivial) ?_
  exact ⟨rfl, rfl⟩
