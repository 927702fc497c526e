/-! small methods of the class: laid by wip/whole/p12.py -/
def am_sqo (f : Nat → Int64) (k : Int32) : Int64 := if 0 ≤ k.toInt ∧ k.toInt < 6 then f k.toNatClampNeg else 0
def am_open (f : Nat → Int64) : Int64 := 68719476735 &&& (am_sqo f 1 ^^^ (-1))
def am_sun (w : Int32) : Int32 := 1 + w / 3
abbrev am_hs (n s : Int32) : Prop := 0 ≤ s.toInt ∧ s.toInt < n.toInt ∧ s.toInt < 3
def am_ifs (n : Int32) (f : Nat → Int32) (s e : Int32) : Int32 := if 0 ≤ s.toInt ∧ s.toInt < n.toInt ∧ s.toInt < 3 then f s.toNatClampNeg else e
theorem S_squaresOf_1 (d : Nat) (k : Int32) (x : am_X) : am_T (d + 2) mX1_squaresOf [.ref 1, .int k] x (fun ro x' => x = x' ∧ ro = some (.long (am_sqo (x.2.2.2 2) k))) := by
  refine am_T.of rfl ?_
  show am_Rr _ kX1_squaresOf (0, [some (.ref 1), some (.int k)], [], x) _
  refine am_Rr.go 2 (σ' := (if k < 0 then 22 else 4, [some (.ref 1), some (.int k)], [], x)) rfl ?_
  refine am_Rr.ite (fun h_1 => ?_) (fun h_1 => ?_)
  · refine am_Rr.go 1 (σ' := (23, [some (.ref 1), some (.int k)], [.long 0], x)) rfl ?_
    refine am_Rr.ret (v := some (.long 0)) (x := x) rfl (by trivial) ?_
    exact ⟨rfl, by unfold am_sqo; first | (rw [if_pos (by simp only [Int32.lt_iff_toInt_lt, Int32.le_iff_toInt_le, ← Int32.toInt_inj, am_nm9, am_nm6, am_nm4, am_nm3, am_nm2, am_nm1, am_n0, am_n1, am_n2, am_n3, am_n4, am_n5, am_n6, am_n7, am_n8, am_n9, am_n10, am_n11, am_n12, am_n20, am_n35, am_n36, am_n60, am_n96, am_n99, am_n255, am_n999] at *; omega)]) | (rw [if_neg (by simp only [Int32.lt_iff_toInt_lt, Int32.le_iff_toInt_le, ← Int32.toInt_inj, am_nm9, am_nm6, am_nm4, am_nm3, am_nm2, am_nm1, am_n0, am_n1, am_n2, am_n3, am_n4, am_n5, am_n6, am_n7, am_n8, am_n9, am_n10, am_n11, am_n12, am_n20, am_n35, am_n36, am_n60, am_n96, am_n99, am_n255, am_n999] at *; omega)])⟩
  · refine am_Rr.go 5 (σ' := (if (6 : Int32) ≤ k then 22 else 13, [some (.ref 1), some (.int k)], [], x)) rfl ?_
    refine am_Rr.ite (fun h_2 => ?_) (fun h_2 => ?_)
    · refine am_Rr.go 1 (σ' := (23, [some (.ref 1), some (.int k)], [.long 0], x)) rfl ?_
      refine am_Rr.ret (v := some (.long 0)) (x := x) rfl (by trivial) ?_
      exact ⟨rfl, by unfold am_sqo; first | (rw [if_pos (by simp only [Int32.lt_iff_toInt_lt, Int32.le_iff_toInt_le, ← Int32.toInt_inj, am_nm9, am_nm6, am_nm4, am_nm3, am_nm2, am_nm1, am_n0, am_n1, am_n2, am_n3, am_n4, am_n5, am_n6, am_n7, am_n8, am_n9, am_n10, am_n11, am_n12, am_n20, am_n35, am_n36, am_n60, am_n96, am_n99, am_n255, am_n999] at *; omega)]) | (rw [if_neg (by simp only [Int32.lt_iff_toInt_lt, Int32.le_iff_toInt_le, ← Int32.toInt_inj, am_nm9, am_nm6, am_nm4, am_nm3, am_nm2, am_nm1, am_n0, am_n1, am_n2, am_n3, am_n4, am_n5, am_n6, am_n7, am_n8, am_n9, am_n10, am_n11, am_n12, am_n20, am_n35, am_n36, am_n60, am_n96, am_n99, am_n255, am_n999] at *; omega)])⟩
    · refine am_Rr.go 3 (σ' := (18, [some (.ref 1), some (.int k)], [.int k, .ref 2], x)) rfl ?_
      refine am_Rr.chk (σ' := (19, [some (.ref 1), some (.int k)], [.long ((x.2.2.2 2) k.toNatClampNeg)], x)) rfl (by rw [vp_in_iff]; simp only [Int32.lt_iff_toInt_lt, Int32.le_iff_toInt_le, ← Int32.toInt_inj, am_nm9, am_nm6, am_nm4, am_nm3, am_nm2, am_nm1, am_n0, am_n1, am_n2, am_n3, am_n4, am_n5, am_n6, am_n7, am_n8, am_n9, am_n10, am_n11, am_n12, am_n20, am_n35, am_n36, am_n60, am_n96, am_n99, am_n255, am_n999] at *; omega) ?_
      refine am_Rr.go 1 (σ' := (23, [some (.ref 1), some (.int k)], [.long ((x.2.2.2 2) k.toNatClampNeg)], x)) rfl ?_
      refine am_Rr.ret (v := some (.long ((x.2.2.2 2) k.toNatClampNeg))) (x := x) rfl (by trivial) ?_
      exact ⟨rfl, by unfold am_sqo; first | (rw [if_pos (by simp only [Int32.lt_iff_toInt_lt, Int32.le_iff_toInt_le, ← Int32.toInt_inj, am_nm9, am_nm6, am_nm4, am_nm3, am_nm2, am_nm1, am_n0, am_n1, am_n2, am_n3, am_n4, am_n5, am_n6, am_n7, am_n8, am_n9, am_n10, am_n11, am_n12, am_n20, am_n35, am_n36, am_n60, am_n96, am_n99, am_n255, am_n999] at *; omega)]) | (rw [if_neg (by simp only [Int32.lt_iff_toInt_lt, Int32.le_iff_toInt_le, ← Int32.toInt_inj, am_nm9, am_nm6, am_nm4, am_nm3, am_nm2, am_nm1, am_n0, am_n1, am_n2, am_n3, am_n4, am_n5, am_n6, am_n7, am_n8, am_n9, am_n10, am_n11, am_n12, am_n20, am_n35, am_n36, am_n60, am_n96, am_n99, am_n255, am_n999] at *; omega)])⟩
theorem S_squaresOf_5 (d : Nat) (k : Int32) (x : am_X) : am_T (d + 2) mX1_squaresOf [.ref 5, .int k] x (fun ro x' => x = x' ∧ ro = some (.long (am_sqo (x.2.2.2 6) k))) := by
  refine am_T.of rfl ?_
  show am_Rr _ kX1_squaresOf (0, [some (.ref 5), some (.int k)], [], x) _
  refine am_Rr.go 2 (σ' := (if k < 0 then 22 else 4, [some (.ref 5), some (.int k)], [], x)) rfl ?_
  refine am_Rr.ite (fun h_1 => ?_) (fun h_1 => ?_)
  · refine am_Rr.go 1 (σ' := (23, [some (.ref 5), some (.int k)], [.long 0], x)) rfl ?_
    refine am_Rr.ret (v := some (.long 0)) (x := x) rfl (by trivial) ?_
    exact ⟨rfl, by unfold am_sqo; first | (rw [if_pos (by simp only [Int32.lt_iff_toInt_lt, Int32.le_iff_toInt_le, ← Int32.toInt_inj, am_nm9, am_nm6, am_nm4, am_nm3, am_nm2, am_nm1, am_n0, am_n1, am_n2, am_n3, am_n4, am_n5, am_n6, am_n7, am_n8, am_n9, am_n10, am_n11, am_n12, am_n20, am_n35, am_n36, am_n60, am_n96, am_n99, am_n255, am_n999] at *; omega)]) | (rw [if_neg (by simp only [Int32.lt_iff_toInt_lt, Int32.le_iff_toInt_le, ← Int32.toInt_inj, am_nm9, am_nm6, am_nm4, am_nm3, am_nm2, am_nm1, am_n0, am_n1, am_n2, am_n3, am_n4, am_n5, am_n6, am_n7, am_n8, am_n9, am_n10, am_n11, am_n12, am_n20, am_n35, am_n36, am_n60, am_n96, am_n99, am_n255, am_n999] at *; omega)])⟩
  · refine am_Rr.go 5 (σ' := (if (6 : Int32) ≤ k then 22 else 13, [some (.ref 5), some (.int k)], [], x)) rfl ?_
    refine am_Rr.ite (fun h_2 => ?_) (fun h_2 => ?_)
    · refine am_Rr.go 1 (σ' := (23, [some (.ref 5), some (.int k)], [.long 0], x)) rfl ?_
      refine am_Rr.ret (v := some (.long 0)) (x := x) rfl (by trivial) ?_
      exact ⟨rfl, by unfold am_sqo; first | (rw [if_pos (by simp only [Int32.lt_iff_toInt_lt, Int32.le_iff_toInt_le, ← Int32.toInt_inj, am_nm9, am_nm6, am_nm4, am_nm3, am_nm2, am_nm1, am_n0, am_n1, am_n2, am_n3, am_n4, am_n5, am_n6, am_n7, am_n8, am_n9, am_n10, am_n11, am_n12, am_n20, am_n35, am_n36, am_n60, am_n96, am_n99, am_n255, am_n999] at *; omega)]) | (rw [if_neg (by simp only [Int32.lt_iff_toInt_lt, Int32.le_iff_toInt_le, ← Int32.toInt_inj, am_nm9, am_nm6, am_nm4, am_nm3, am_nm2, am_nm1, am_n0, am_n1, am_n2, am_n3, am_n4, am_n5, am_n6, am_n7, am_n8, am_n9, am_n10, am_n11, am_n12, am_n20, am_n35, am_n36, am_n60, am_n96, am_n99, am_n255, am_n999] at *; omega)])⟩
    · refine am_Rr.go 3 (σ' := (18, [some (.ref 5), some (.int k)], [.int k, .ref 6], x)) rfl ?_
      refine am_Rr.chk (σ' := (19, [some (.ref 5), some (.int k)], [.long ((x.2.2.2 6) k.toNatClampNeg)], x)) rfl (by rw [vp_in_iff]; simp only [Int32.lt_iff_toInt_lt, Int32.le_iff_toInt_le, ← Int32.toInt_inj, am_nm9, am_nm6, am_nm4, am_nm3, am_nm2, am_nm1, am_n0, am_n1, am_n2, am_n3, am_n4, am_n5, am_n6, am_n7, am_n8, am_n9, am_n10, am_n11, am_n12, am_n20, am_n35, am_n36, am_n60, am_n96, am_n99, am_n255, am_n999] at *; omega) ?_
      refine am_Rr.go 1 (σ' := (23, [some (.ref 5), some (.int k)], [.long ((x.2.2.2 6) k.toNatClampNeg)], x)) rfl ?_
      refine am_Rr.ret (v := some (.long ((x.2.2.2 6) k.toNatClampNeg))) (x := x) rfl (by trivial) ?_
      exact ⟨rfl, by unfold am_sqo; first | (rw [if_pos (by simp only [Int32.lt_iff_toInt_lt, Int32.le_iff_toInt_le, ← Int32.toInt_inj, am_nm9, am_nm6, am_nm4, am_nm3, am_nm2, am_nm1, am_n0, am_n1, am_n2, am_n3, am_n4, am_n5, am_n6, am_n7, am_n8, am_n9, am_n10, am_n11, am_n12, am_n20, am_n35, am_n36, am_n60, am_n96, am_n99, am_n255, am_n999] at *; omega)]) | (rw [if_neg (by simp only [Int32.lt_iff_toInt_lt, Int32.le_iff_toInt_le, ← Int32.toInt_inj, am_nm9, am_nm6, am_nm4, am_nm3, am_nm2, am_nm1, am_n0, am_n1, am_n2, am_n3, am_n4, am_n5, am_n6, am_n7, am_n8, am_n9, am_n10, am_n11, am_n12, am_n20, am_n35, am_n36, am_n60, am_n96, am_n99, am_n255, am_n999] at *; omega)])⟩
theorem S_squaresOf_9 (d : Nat) (k : Int32) (x : am_X) : am_T (d + 2) mX1_squaresOf [.ref 9, .int k] x (fun ro x' => x = x' ∧ ro = some (.long (am_sqo (x.2.2.2 10) k))) := by
  refine am_T.of rfl ?_
  show am_Rr _ kX1_squaresOf (0, [some (.ref 9), some (.int k)], [], x) _
  refine am_Rr.go 2 (σ' := (if k < 0 then 22 else 4, [some (.ref 9), some (.int k)], [], x)) rfl ?_
  refine am_Rr.ite (fun h_1 => ?_) (fun h_1 => ?_)
  · refine am_Rr.go 1 (σ' := (23, [some (.ref 9), some (.int k)], [.long 0], x)) rfl ?_
    refine am_Rr.ret (v := some (.long 0)) (x := x) rfl (by trivial) ?_
    exact ⟨rfl, by unfold am_sqo; first | (rw [if_pos (by simp only [Int32.lt_iff_toInt_lt, Int32.le_iff_toInt_le, ← Int32.toInt_inj, am_nm9, am_nm6, am_nm4, am_nm3, am_nm2, am_nm1, am_n0, am_n1, am_n2, am_n3, am_n4, am_n5, am_n6, am_n7, am_n8, am_n9, am_n10, am_n11, am_n12, am_n20, am_n35, am_n36, am_n60, am_n96, am_n99, am_n255, am_n999] at *; omega)]) | (rw [if_neg (by simp only [Int32.lt_iff_toInt_lt, Int32.le_iff_toInt_le, ← Int32.toInt_inj, am_nm9, am_nm6, am_nm4, am_nm3, am_nm2, am_nm1, am_n0, am_n1, am_n2, am_n3, am_n4, am_n5, am_n6, am_n7, am_n8, am_n9, am_n10, am_n11, am_n12, am_n20, am_n35, am_n36, am_n60, am_n96, am_n99, am_n255, am_n999] at *; omega)])⟩
  · refine am_Rr.go 5 (σ' := (if (6 : Int32) ≤ k then 22 else 13, [some (.ref 9), some (.int k)], [], x)) rfl ?_
    refine am_Rr.ite (fun h_2 => ?_) (fun h_2 => ?_)
    · refine am_Rr.go 1 (σ' := (23, [some (.ref 9), some (.int k)], [.long 0], x)) rfl ?_
      refine am_Rr.ret (v := some (.long 0)) (x := x) rfl (by trivial) ?_
      exact ⟨rfl, by unfold am_sqo; first | (rw [if_pos (by simp only [Int32.lt_iff_toInt_lt, Int32.le_iff_toInt_le, ← Int32.toInt_inj, am_nm9, am_nm6, am_nm4, am_nm3, am_nm2, am_nm1, am_n0, am_n1, am_n2, am_n3, am_n4, am_n5, am_n6, am_n7, am_n8, am_n9, am_n10, am_n11, am_n12, am_n20, am_n35, am_n36, am_n60, am_n96, am_n99, am_n255, am_n999] at *; omega)]) | (rw [if_neg (by simp only [Int32.lt_iff_toInt_lt, Int32.le_iff_toInt_le, ← Int32.toInt_inj, am_nm9, am_nm6, am_nm4, am_nm3, am_nm2, am_nm1, am_n0, am_n1, am_n2, am_n3, am_n4, am_n5, am_n6, am_n7, am_n8, am_n9, am_n10, am_n11, am_n12, am_n20, am_n35, am_n36, am_n60, am_n96, am_n99, am_n255, am_n999] at *; omega)])⟩
    · refine am_Rr.go 3 (σ' := (18, [some (.ref 9), some (.int k)], [.int k, .ref 10], x)) rfl ?_
      refine am_Rr.chk (σ' := (19, [some (.ref 9), some (.int k)], [.long ((x.2.2.2 10) k.toNatClampNeg)], x)) rfl (by rw [vp_in_iff]; simp only [Int32.lt_iff_toInt_lt, Int32.le_iff_toInt_le, ← Int32.toInt_inj, am_nm9, am_nm6, am_nm4, am_nm3, am_nm2, am_nm1, am_n0, am_n1, am_n2, am_n3, am_n4, am_n5, am_n6, am_n7, am_n8, am_n9, am_n10, am_n11, am_n12, am_n20, am_n35, am_n36, am_n60, am_n96, am_n99, am_n255, am_n999] at *; omega) ?_
      refine am_Rr.go 1 (σ' := (23, [some (.ref 9), some (.int k)], [.long ((x.2.2.2 10) k.toNatClampNeg)], x)) rfl ?_
      refine am_Rr.ret (v := some (.long ((x.2.2.2 10) k.toNatClampNeg))) (x := x) rfl (by trivial) ?_
      exact ⟨rfl, by unfold am_sqo; first | (rw [if_pos (by simp only [Int32.lt_iff_toInt_lt, Int32.le_iff_toInt_le, ← Int32.toInt_inj, am_nm9, am_nm6, am_nm4, am_nm3, am_nm2, am_nm1, am_n0, am_n1, am_n2, am_n3, am_n4, am_n5, am_n6, am_n7, am_n8, am_n9, am_n10, am_n11, am_n12, am_n20, am_n35, am_n36, am_n60, am_n96, am_n99, am_n255, am_n999] at *; omega)]) | (rw [if_neg (by simp only [Int32.lt_iff_toInt_lt, Int32.le_iff_toInt_le, ← Int32.toInt_inj, am_nm9, am_nm6, am_nm4, am_nm3, am_nm2, am_nm1, am_n0, am_n1, am_n2, am_n3, am_n4, am_n5, am_n6, am_n7, am_n8, am_n9, am_n10, am_n11, am_n12, am_n20, am_n35, am_n36, am_n60, am_n96, am_n99, am_n255, am_n999] at *; omega)])⟩
theorem S_open_1 (d : Nat) (x : am_X) : am_T (d + 3) mX1_open [.ref 1] x (fun ro x' => x = x' ∧ ro = some (.long (am_open (x.2.2.2 2)))) := by
  refine am_T.of rfl ?_
  show am_Rr _ kX1_open (0, [some (.ref 1)], [], x) _
  refine am_Rr.go 3 (σ' := (5, [some (.ref 1)], [.int 1, .ref 1, .long 68719476735], x)) rfl ?_
  refine am_Rr.call (pc := 8) (ls := [some (.ref 1)]) (st := [.long 68719476735]) rfl (S_squaresOf_1 d (1 : Int32) x) ?_
  rintro _ _ ⟨rfl, rfl⟩
  show am_Rr _ _ (8, [some (.ref 1)], [.long (am_sqo (x.2.2.2 2) (1 : Int32)), .long 68719476735], x) _
  refine am_Rr.go 3 (σ' := (13, [some (.ref 1)], [.long (68719476735 &&& ((am_sqo (x.2.2.2 2) (1 : Int32)) ^^^ (-1)))], x)) rfl ?_
  refine am_Rr.ret (v := some (.long (68719476735 &&& ((am_sqo (x.2.2.2 2) (1 : Int32)) ^^^ (-1))))) (x := x) rfl (by trivial) ?_
  exact ⟨rfl, rfl⟩
theorem S_stepsOffSun_1 (d : Nat) (x : am_X) : am_T (d + 2) mX1_stepsOffSun [.ref 1] x (fun ro x' => x = x' ∧ ro = some (.int (am_sun (x.1 38)))) := by
  refine am_T.of rfl ?_
  show am_Rr _ kX1_stepsOffSun (0, [some (.ref 1)], [], x) _
  refine am_Rr.go 4 (σ' := (6, [some (.ref 1)], [.int 3, .int (x.1 38), .int 1], x)) rfl ?_
  refine am_Rr.chk (σ' := (7, [some (.ref 1)], [.int ((x.1 38) / 3), .int 1], x)) rfl (by decide) ?_
  refine am_Rr.go 1 (σ' := (8, [some (.ref 1)], [.int (1 + ((x.1 38) / 3))], x)) rfl ?_
  refine am_Rr.ret (v := some (.int (1 + ((x.1 38) / 3)))) (x := x) rfl (by trivial) ?_
  exact ⟨rfl, rfl⟩
theorem S_hasSeeker_1 (d : Nat) (s : Int32) (x : am_X) : am_T (d + 2) mX1_hasSeeker [.ref 1, .int s] x (fun ro x' => x = x' ∧ ((ro = some (.int 1) ∧ (am_hs (x.1 35) s)) ∨ (ro = some (.int 0) ∧ ¬ (am_hs (x.1 35) s)))) := by
  refine am_T.of rfl ?_
  show am_Rr _ kX1_hasSeeker (0, [some (.ref 1), some (.int s)], [], x) _
  refine am_Rr.go 2 (σ' := (if s < 0 then 21 else 4, [some (.ref 1), some (.int s)], [], x)) rfl ?_
  refine am_Rr.ite (fun h_1 => ?_) (fun h_1 => ?_)
  · refine am_Rr.go 1 (σ' := (22, [some (.ref 1), some (.int s)], [.int 0], x)) rfl ?_
    refine am_Rr.ret (v := some (.int 0)) (x := x) rfl (by first | exact Or.inl rfl | exact Or.inr rfl | assumption) ?_
    exact ⟨rfl, Or.inr ⟨rfl, by unfold am_hs; simp only [Int32.lt_iff_toInt_lt, Int32.le_iff_toInt_le, ← Int32.toInt_inj, am_nm9, am_nm6, am_nm4, am_nm3, am_nm2, am_nm1, am_n0, am_n1, am_n2, am_n3, am_n4, am_n5, am_n6, am_n7, am_n8, am_n9, am_n10, am_n11, am_n12, am_n20, am_n35, am_n36, am_n60, am_n96, am_n99, am_n255, am_n999] at *; omega⟩⟩
  · refine am_Rr.go 4 (σ' := (if (x.1 35) ≤ s then 21 else 12, [some (.ref 1), some (.int s)], [], x)) rfl ?_
    refine am_Rr.ite (fun h_2 => ?_) (fun h_2 => ?_)
    · refine am_Rr.go 1 (σ' := (22, [some (.ref 1), some (.int s)], [.int 0], x)) rfl ?_
      refine am_Rr.ret (v := some (.int 0)) (x := x) rfl (by first | exact Or.inl rfl | exact Or.inr rfl | assumption) ?_
      exact ⟨rfl, Or.inr ⟨rfl, by unfold am_hs; simp only [Int32.lt_iff_toInt_lt, Int32.le_iff_toInt_le, ← Int32.toInt_inj, am_nm9, am_nm6, am_nm4, am_nm3, am_nm2, am_nm1, am_n0, am_n1, am_n2, am_n3, am_n4, am_n5, am_n6, am_n7, am_n8, am_n9, am_n10, am_n11, am_n12, am_n20, am_n35, am_n36, am_n60, am_n96, am_n99, am_n255, am_n999] at *; omega⟩⟩
    · refine am_Rr.go 3 (σ' := (if (3 : Int32) ≤ s then 21 else 17, [some (.ref 1), some (.int s)], [], x)) rfl ?_
      refine am_Rr.ite (fun h_3 => ?_) (fun h_3 => ?_)
      · refine am_Rr.go 1 (σ' := (22, [some (.ref 1), some (.int s)], [.int 0], x)) rfl ?_
        refine am_Rr.ret (v := some (.int 0)) (x := x) rfl (by first | exact Or.inl rfl | exact Or.inr rfl | assumption) ?_
        exact ⟨rfl, Or.inr ⟨rfl, by unfold am_hs; simp only [Int32.lt_iff_toInt_lt, Int32.le_iff_toInt_le, ← Int32.toInt_inj, am_nm9, am_nm6, am_nm4, am_nm3, am_nm2, am_nm1, am_n0, am_n1, am_n2, am_n3, am_n4, am_n5, am_n6, am_n7, am_n8, am_n9, am_n10, am_n11, am_n12, am_n20, am_n35, am_n36, am_n60, am_n96, am_n99, am_n255, am_n999] at *; omega⟩⟩
      · refine am_Rr.go 2 (σ' := (22, [some (.ref 1), some (.int s)], [.int 1], x)) rfl ?_
        refine am_Rr.ret (v := some (.int 1)) (x := x) rfl (by first | exact Or.inl rfl | exact Or.inr rfl | assumption) ?_
        exact ⟨rfl, Or.inl ⟨rfl, by unfold am_hs; simp only [Int32.lt_iff_toInt_lt, Int32.le_iff_toInt_le, ← Int32.toInt_inj, am_nm9, am_nm6, am_nm4, am_nm3, am_nm2, am_nm1, am_n0, am_n1, am_n2, am_n3, am_n4, am_n5, am_n6, am_n7, am_n8, am_n9, am_n10, am_n11, am_n12, am_n20, am_n35, am_n36, am_n60, am_n96, am_n99, am_n255, am_n999] at *; omega⟩⟩
theorem S_open_5 (d : Nat) (x : am_X) : am_T (d + 3) mX1_open [.ref 5] x (fun ro x' => x = x' ∧ ro = some (.long (am_open (x.2.2.2 6)))) := by
  refine am_T.of rfl ?_
  show am_Rr _ kX1_open (0, [some (.ref 5)], [], x) _
  refine am_Rr.go 3 (σ' := (5, [some (.ref 5)], [.int 1, .ref 5, .long 68719476735], x)) rfl ?_
  refine am_Rr.call (pc := 8) (ls := [some (.ref 5)]) (st := [.long 68719476735]) rfl (S_squaresOf_5 d (1 : Int32) x) ?_
  rintro _ _ ⟨rfl, rfl⟩
  show am_Rr _ _ (8, [some (.ref 5)], [.long (am_sqo (x.2.2.2 6) (1 : Int32)), .long 68719476735], x) _
  refine am_Rr.go 3 (σ' := (13, [some (.ref 5)], [.long (68719476735 &&& ((am_sqo (x.2.2.2 6) (1 : Int32)) ^^^ (-1)))], x)) rfl ?_
  refine am_Rr.ret (v := some (.long (68719476735 &&& ((am_sqo (x.2.2.2 6) (1 : Int32)) ^^^ (-1))))) (x := x) rfl (by trivial) ?_
  exact ⟨rfl, rfl⟩
theorem S_stepsOffSun_5 (d : Nat) (x : am_X) : am_T (d + 2) mX1_stepsOffSun [.ref 5] x (fun ro x' => x = x' ∧ ro = some (.int (am_sun (x.1 166)))) := by
  refine am_T.of rfl ?_
  show am_Rr _ kX1_stepsOffSun (0, [some (.ref 5)], [], x) _
  refine am_Rr.go 4 (σ' := (6, [some (.ref 5)], [.int 3, .int (x.1 166), .int 1], x)) rfl ?_
  refine am_Rr.chk (σ' := (7, [some (.ref 5)], [.int ((x.1 166) / 3), .int 1], x)) rfl (by decide) ?_
  refine am_Rr.go 1 (σ' := (8, [some (.ref 5)], [.int (1 + ((x.1 166) / 3))], x)) rfl ?_
  refine am_Rr.ret (v := some (.int (1 + ((x.1 166) / 3)))) (x := x) rfl (by trivial) ?_
  exact ⟨rfl, rfl⟩
theorem S_hasSeeker_5 (d : Nat) (s : Int32) (x : am_X) : am_T (d + 2) mX1_hasSeeker [.ref 5, .int s] x (fun ro x' => x = x' ∧ ((ro = some (.int 1) ∧ (am_hs (x.1 163) s)) ∨ (ro = some (.int 0) ∧ ¬ (am_hs (x.1 163) s)))) := by
  refine am_T.of rfl ?_
  show am_Rr _ kX1_hasSeeker (0, [some (.ref 5), some (.int s)], [], x) _
  refine am_Rr.go 2 (σ' := (if s < 0 then 21 else 4, [some (.ref 5), some (.int s)], [], x)) rfl ?_
  refine am_Rr.ite (fun h_1 => ?_) (fun h_1 => ?_)
  · refine am_Rr.go 1 (σ' := (22, [some (.ref 5), some (.int s)], [.int 0], x)) rfl ?_
    refine am_Rr.ret (v := some (.int 0)) (x := x) rfl (by first | exact Or.inl rfl | exact Or.inr rfl | assumption) ?_
    exact ⟨rfl, Or.inr ⟨rfl, by unfold am_hs; simp only [Int32.lt_iff_toInt_lt, Int32.le_iff_toInt_le, ← Int32.toInt_inj, am_nm9, am_nm6, am_nm4, am_nm3, am_nm2, am_nm1, am_n0, am_n1, am_n2, am_n3, am_n4, am_n5, am_n6, am_n7, am_n8, am_n9, am_n10, am_n11, am_n12, am_n20, am_n35, am_n36, am_n60, am_n96, am_n99, am_n255, am_n999] at *; omega⟩⟩
  · refine am_Rr.go 4 (σ' := (if (x.1 163) ≤ s then 21 else 12, [some (.ref 5), some (.int s)], [], x)) rfl ?_
    refine am_Rr.ite (fun h_2 => ?_) (fun h_2 => ?_)
    · refine am_Rr.go 1 (σ' := (22, [some (.ref 5), some (.int s)], [.int 0], x)) rfl ?_
      refine am_Rr.ret (v := some (.int 0)) (x := x) rfl (by first | exact Or.inl rfl | exact Or.inr rfl | assumption) ?_
      exact ⟨rfl, Or.inr ⟨rfl, by unfold am_hs; simp only [Int32.lt_iff_toInt_lt, Int32.le_iff_toInt_le, ← Int32.toInt_inj, am_nm9, am_nm6, am_nm4, am_nm3, am_nm2, am_nm1, am_n0, am_n1, am_n2, am_n3, am_n4, am_n5, am_n6, am_n7, am_n8, am_n9, am_n10, am_n11, am_n12, am_n20, am_n35, am_n36, am_n60, am_n96, am_n99, am_n255, am_n999] at *; omega⟩⟩
    · refine am_Rr.go 3 (σ' := (if (3 : Int32) ≤ s then 21 else 17, [some (.ref 5), some (.int s)], [], x)) rfl ?_
      refine am_Rr.ite (fun h_3 => ?_) (fun h_3 => ?_)
      · refine am_Rr.go 1 (σ' := (22, [some (.ref 5), some (.int s)], [.int 0], x)) rfl ?_
        refine am_Rr.ret (v := some (.int 0)) (x := x) rfl (by first | exact Or.inl rfl | exact Or.inr rfl | assumption) ?_
        exact ⟨rfl, Or.inr ⟨rfl, by unfold am_hs; simp only [Int32.lt_iff_toInt_lt, Int32.le_iff_toInt_le, ← Int32.toInt_inj, am_nm9, am_nm6, am_nm4, am_nm3, am_nm2, am_nm1, am_n0, am_n1, am_n2, am_n3, am_n4, am_n5, am_n6, am_n7, am_n8, am_n9, am_n10, am_n11, am_n12, am_n20, am_n35, am_n36, am_n60, am_n96, am_n99, am_n255, am_n999] at *; omega⟩⟩
      · refine am_Rr.go 2 (σ' := (22, [some (.ref 5), some (.int s)], [.int 1], x)) rfl ?_
        refine am_Rr.ret (v := some (.int 1)) (x := x) rfl (by first | exact Or.inl rfl | exact Or.inr rfl | assumption) ?_
        exact ⟨rfl, Or.inl ⟨rfl, by unfold am_hs; simp only [Int32.lt_iff_toInt_lt, Int32.le_iff_toInt_le, ← Int32.toInt_inj, am_nm9, am_nm6, am_nm4, am_nm3, am_nm2, am_nm1, am_n0, am_n1, am_n2, am_n3, am_n4, am_n5, am_n6, am_n7, am_n8, am_n9, am_n10, am_n11, am_n12, am_n20, am_n35, am_n36, am_n60, am_n96, am_n99, am_n255, am_n999] at *; omega⟩⟩
theorem S_open_9 (d : Nat) (x : am_X) : am_T (d + 3) mX1_open [.ref 9] x (fun ro x' => x = x' ∧ ro = some (.long (am_open (x.2.2.2 10)))) := by
  refine am_T.of rfl ?_
  show am_Rr _ kX1_open (0, [some (.ref 9)], [], x) _
  refine am_Rr.go 3 (σ' := (5, [some (.ref 9)], [.int 1, .ref 9, .long 68719476735], x)) rfl ?_
  refine am_Rr.call (pc := 8) (ls := [some (.ref 9)]) (st := [.long 68719476735]) rfl (S_squaresOf_9 d (1 : Int32) x) ?_
  rintro _ _ ⟨rfl, rfl⟩
  show am_Rr _ _ (8, [some (.ref 9)], [.long (am_sqo (x.2.2.2 10) (1 : Int32)), .long 68719476735], x) _
  refine am_Rr.go 3 (σ' := (13, [some (.ref 9)], [.long (68719476735 &&& ((am_sqo (x.2.2.2 10) (1 : Int32)) ^^^ (-1)))], x)) rfl ?_
  refine am_Rr.ret (v := some (.long (68719476735 &&& ((am_sqo (x.2.2.2 10) (1 : Int32)) ^^^ (-1))))) (x := x) rfl (by trivial) ?_
  exact ⟨rfl, rfl⟩
theorem S_stepsOffSun_9 (d : Nat) (x : am_X) : am_T (d + 2) mX1_stepsOffSun [.ref 9] x (fun ro x' => x = x' ∧ ro = some (.int (am_sun (x.1 294)))) := by
  refine am_T.of rfl ?_
  show am_Rr _ kX1_stepsOffSun (0, [some (.ref 9)], [], x) _
  refine am_Rr.go 4 (σ' := (6, [some (.ref 9)], [.int 3, .int (x.1 294), .int 1], x)) rfl ?_
  refine am_Rr.chk (σ' := (7, [some (.ref 9)], [.int ((x.1 294) / 3), .int 1], x)) rfl (by decide) ?_
  refine am_Rr.go 1 (σ' := (8, [some (.ref 9)], [.int (1 + ((x.1 294) / 3))], x)) rfl ?_
  refine am_Rr.ret (v := some (.int (1 + ((x.1 294) / 3)))) (x := x) rfl (by trivial) ?_
  exact ⟨rfl, rfl⟩
theorem S_hasSeeker_9 (d : Nat) (s : Int32) (x : am_X) : am_T (d + 2) mX1_hasSeeker [.ref 9, .int s] x (fun ro x' => x = x' ∧ ((ro = some (.int 1) ∧ (am_hs (x.1 291) s)) ∨ (ro = some (.int 0) ∧ ¬ (am_hs (x.1 291) s)))) := by
  refine am_T.of rfl ?_
  show am_Rr _ kX1_hasSeeker (0, [some (.ref 9), some (.int s)], [], x) _
  refine am_Rr.go 2 (σ' := (if s < 0 then 21 else 4, [some (.ref 9), some (.int s)], [], x)) rfl ?_
  refine am_Rr.ite (fun h_1 => ?_) (fun h_1 => ?_)
  · refine am_Rr.go 1 (σ' := (22, [some (.ref 9), some (.int s)], [.int 0], x)) rfl ?_
    refine am_Rr.ret (v := some (.int 0)) (x := x) rfl (by first | exact Or.inl rfl | exact Or.inr rfl | assumption) ?_
    exact ⟨rfl, Or.inr ⟨rfl, by unfold am_hs; simp only [Int32.lt_iff_toInt_lt, Int32.le_iff_toInt_le, ← Int32.toInt_inj, am_nm9, am_nm6, am_nm4, am_nm3, am_nm2, am_nm1, am_n0, am_n1, am_n2, am_n3, am_n4, am_n5, am_n6, am_n7, am_n8, am_n9, am_n10, am_n11, am_n12, am_n20, am_n35, am_n36, am_n60, am_n96, am_n99, am_n255, am_n999] at *; omega⟩⟩
  · refine am_Rr.go 4 (σ' := (if (x.1 291) ≤ s then 21 else 12, [some (.ref 9), some (.int s)], [], x)) rfl ?_
    refine am_Rr.ite (fun h_2 => ?_) (fun h_2 => ?_)
    · refine am_Rr.go 1 (σ' := (22, [some (.ref 9), some (.int s)], [.int 0], x)) rfl ?_
      refine am_Rr.ret (v := some (.int 0)) (x := x) rfl (by first | exact Or.inl rfl | exact Or.inr rfl | assumption) ?_
      exact ⟨rfl, Or.inr ⟨rfl, by unfold am_hs; simp only [Int32.lt_iff_toInt_lt, Int32.le_iff_toInt_le, ← Int32.toInt_inj, am_nm9, am_nm6, am_nm4, am_nm3, am_nm2, am_nm1, am_n0, am_n1, am_n2, am_n3, am_n4, am_n5, am_n6, am_n7, am_n8, am_n9, am_n10, am_n11, am_n12, am_n20, am_n35, am_n36, am_n60, am_n96, am_n99, am_n255, am_n999] at *; omega⟩⟩
    · refine am_Rr.go 3 (σ' := (if (3 : Int32) ≤ s then 21 else 17, [some (.ref 9), some (.int s)], [], x)) rfl ?_
      refine am_Rr.ite (fun h_3 => ?_) (fun h_3 => ?_)
      · refine am_Rr.go 1 (σ' := (22, [some (.ref 9), some (.int s)], [.int 0], x)) rfl ?_
        refine am_Rr.ret (v := some (.int 0)) (x := x) rfl (by first | exact Or.inl rfl | exact Or.inr rfl | assumption) ?_
        exact ⟨rfl, Or.inr ⟨rfl, by unfold am_hs; simp only [Int32.lt_iff_toInt_lt, Int32.le_iff_toInt_le, ← Int32.toInt_inj, am_nm9, am_nm6, am_nm4, am_nm3, am_nm2, am_nm1, am_n0, am_n1, am_n2, am_n3, am_n4, am_n5, am_n6, am_n7, am_n8, am_n9, am_n10, am_n11, am_n12, am_n20, am_n35, am_n36, am_n60, am_n96, am_n99, am_n255, am_n999] at *; omega⟩⟩
      · refine am_Rr.go 2 (σ' := (22, [some (.ref 9), some (.int s)], [.int 1], x)) rfl ?_
        refine am_Rr.ret (v := some (.int 1)) (x := x) rfl (by first | exact Or.inl rfl | exact Or.inr rfl | assumption) ?_
        exact ⟨rfl, Or.inl ⟨rfl, by unfold am_hs; simp only [Int32.lt_iff_toInt_lt, Int32.le_iff_toInt_le, ← Int32.toInt_inj, am_nm9, am_nm6, am_nm4, am_nm3, am_nm2, am_nm1, am_n0, am_n1, am_n2, am_n3, am_n4, am_n5, am_n6, am_n7, am_n8, am_n9, am_n10, am_n11, am_n12, am_n20, am_n35, am_n36, am_n60, am_n96, am_n99, am_n255, am_n999] at *; omega⟩⟩
theorem S_kindOfSeeker_1 (d : Nat) (s : Int32) (x : am_X) : am_T (d + 3) mX1_kindOfSeeker [.ref 1, .int s] x (fun ro x' => x = x' ∧ ro = some (.int (am_ifs (x.1 35) (x.2.2.1 3) s 0))) := by
  refine am_T.of rfl ?_
  show am_Rr _ kX1_kindOfSeeker (0, [some (.ref 1), some (.int s)], [], x) _
  refine am_Rr.go 2 (σ' := (2, [some (.ref 1), some (.int s)], [.int s, .ref 1], x)) rfl ?_
  refine am_Rr.call (pc := 5) (ls := [some (.ref 1), some (.int s)]) (st := []) rfl (S_hasSeeker_1 d s x) ?_
  rintro _ _ ⟨rfl, (⟨rfl, b_1⟩ | ⟨rfl, b_1⟩)⟩
  · show am_Rr _ _ (5, [some (.ref 1), some (.int s)], [.int 1], x) _
    refine am_Rr.go 4 (σ' := (13, [some (.ref 1), some (.int s)], [.int s, .ref 3], x)) rfl ?_
    refine am_Rr.chk (σ' := (14, [some (.ref 1), some (.int s)], [.int ((x.2.2.1 3) s.toNatClampNeg)], x)) rfl (by rw [vp_in_iff]; exact ⟨by have := b_1.1; omega, by have := b_1.2.2; omega⟩) ?_
    refine am_Rr.go 1 (σ' := (18, [some (.ref 1), some (.int s)], [.int ((x.2.2.1 3) s.toNatClampNeg)], x)) rfl ?_
    refine am_Rr.ret (v := some (.int ((x.2.2.1 3) s.toNatClampNeg))) (x := x) rfl (by trivial) ?_
    exact ⟨rfl, by unfold am_ifs; unfold am_hs at b_1; first | rw [if_pos b_1] | rw [if_neg b_1]⟩
  · show am_Rr _ _ (5, [some (.ref 1), some (.int s)], [.int 0], x) _
    refine am_Rr.go 2 (σ' := (18, [some (.ref 1), some (.int s)], [.int 0], x)) rfl ?_
    refine am_Rr.ret (v := some (.int 0)) (x := x) rfl (by trivial) ?_
    exact ⟨rfl, by unfold am_ifs; unfold am_hs at b_1; first | rw [if_pos b_1] | rw [if_neg b_1]⟩
theorem S_squareOfSeeker_1 (d : Nat) (s : Int32) (x : am_X) : am_T (d + 3) mX1_squareOfSeeker [.ref 1, .int s] x (fun ro x' => x = x' ∧ ro = some (.int (am_ifs (x.1 35) (x.2.2.1 4) s (-9)))) := by
  refine am_T.of rfl ?_
  show am_Rr _ kX1_squareOfSeeker (0, [some (.ref 1), some (.int s)], [], x) _
  refine am_Rr.go 2 (σ' := (2, [some (.ref 1), some (.int s)], [.int s, .ref 1], x)) rfl ?_
  refine am_Rr.call (pc := 5) (ls := [some (.ref 1), some (.int s)]) (st := []) rfl (S_hasSeeker_1 d s x) ?_
  rintro _ _ ⟨rfl, (⟨rfl, b_1⟩ | ⟨rfl, b_1⟩)⟩
  · show am_Rr _ _ (5, [some (.ref 1), some (.int s)], [.int 1], x) _
    refine am_Rr.go 4 (σ' := (13, [some (.ref 1), some (.int s)], [.int s, .ref 4], x)) rfl ?_
    refine am_Rr.chk (σ' := (14, [some (.ref 1), some (.int s)], [.int ((x.2.2.1 4) s.toNatClampNeg)], x)) rfl (by rw [vp_in_iff]; exact ⟨by have := b_1.1; omega, by have := b_1.2.2; omega⟩) ?_
    refine am_Rr.go 1 (σ' := (19, [some (.ref 1), some (.int s)], [.int ((x.2.2.1 4) s.toNatClampNeg)], x)) rfl ?_
    refine am_Rr.ret (v := some (.int ((x.2.2.1 4) s.toNatClampNeg))) (x := x) rfl (by trivial) ?_
    exact ⟨rfl, by unfold am_ifs; unfold am_hs at b_1; first | rw [if_pos b_1] | rw [if_neg b_1]⟩
  · show am_Rr _ _ (5, [some (.ref 1), some (.int s)], [.int 0], x) _
    refine am_Rr.go 2 (σ' := (19, [some (.ref 1), some (.int s)], [.int (-9)], x)) rfl ?_
    refine am_Rr.ret (v := some (.int (-9))) (x := x) rfl (by trivial) ?_
    exact ⟨rfl, by unfold am_ifs; unfold am_hs at b_1; first | rw [if_pos b_1] | rw [if_neg b_1]⟩
theorem S_placeSeeker_1 (d : Nat) (s q : Int32) (x : am_X) : am_T (d + 3) mX1_placeSeeker [.ref 1, .int s, .int q] x (fun r x' => (am_hs (x.1 35) s ∧ r = none ∧ am_sA x 4 (upd (x.2.2.1 4) s.toNatClampNeg q) = x') ∨ (¬ am_hs (x.1 35) s ∧ r = none ∧ x = x')) := by
  refine am_T.of rfl ?_
  show am_Rr _ kX1_placeSeeker (0, [some (.ref 1), some (.int s), some (.int q)], [], x) _
  refine am_Rr.go 2 (σ' := (2, [some (.ref 1), some (.int s), some (.int q)], [.int s, .ref 1], x)) rfl ?_
  refine am_Rr.call (pc := 5) (ls := [some (.ref 1), some (.int s), some (.int q)]) (st := []) rfl (S_hasSeeker_1 d s x) ?_
  rintro _ _ ⟨rfl, (⟨rfl, b_1⟩ | ⟨rfl, b_1⟩)⟩
  · show am_Rr _ _ (5, [some (.ref 1), some (.int s), some (.int q)], [.int 1], x) _
    refine am_Rr.go 5 (σ' := (14, [some (.ref 1), some (.int s), some (.int q)], [.int q, .int s, .ref 4], x)) rfl ?_
    refine am_Rr.chk (σ' := (15, [some (.ref 1), some (.int s), some (.int q)], [], (am_sA x 4 (upd (x.2.2.1 4) s.toNatClampNeg q)))) rfl (by rw [vp_in_iff]; exact ⟨by have := b_1.1; omega, by have := b_1.2.2; omega⟩) ?_
    refine am_Rr.ret (v := none) (x := (am_sA x 4 (upd (x.2.2.1 4) s.toNatClampNeg q))) rfl (by trivial) ?_
    first | exact Or.inl ⟨by assumption, rfl, rfl⟩ | exact Or.inr ⟨by assumption, rfl, rfl⟩
  · show am_Rr _ _ (5, [some (.ref 1), some (.int s), some (.int q)], [.int 0], x) _
    refine am_Rr.go 1 (σ' := (15, [some (.ref 1), some (.int s), some (.int q)], [], x)) rfl ?_
    refine am_Rr.ret (v := none) (x := x) rfl (by trivial) ?_
    first | exact Or.inl ⟨by assumption, rfl, rfl⟩ | exact Or.inr ⟨by assumption, rfl, rfl⟩
theorem S_takePace_1 (d : Nat) (m : Int32) (x : am_X) : am_T (d + 2) mX1_takePace [.ref 1, .int m] x (fun r x' => ((1 ≤ m.toInt ∧ m.toInt ≤ 9) ∧ r = some (.int 1) ∧ am_uI x 37 m = x') ∨ (¬ (1 ≤ m.toInt ∧ m.toInt ≤ 9) ∧ r = some (.int 0) ∧ x = x')) := by
  refine am_T.of rfl ?_
  show am_Rr _ kX1_takePace (0, [some (.ref 1), some (.int m)], [], x) _
  refine am_Rr.go 3 (σ' := (if m < 1 then 11 else 5, [some (.ref 1), some (.int m)], [], x)) rfl ?_
  refine am_Rr.ite (fun h_1 => ?_) (fun h_1 => ?_)
  · refine am_Rr.go 1 (σ' := (12, [some (.ref 1), some (.int m)], [.int 0], x)) rfl ?_
    refine am_Rr.ret (v := some (.int 0)) (x := x) rfl (by first | exact Or.inl rfl | exact Or.inr rfl | assumption) ?_
    first | exact Or.inl ⟨by simp only [Int32.lt_iff_toInt_lt, Int32.le_iff_toInt_le, ← Int32.toInt_inj, am_nm9, am_nm6, am_nm4, am_nm3, am_nm2, am_nm1, am_n0, am_n1, am_n2, am_n3, am_n4, am_n5, am_n6, am_n7, am_n8, am_n9, am_n10, am_n11, am_n12, am_n20, am_n35, am_n36, am_n60, am_n96, am_n99, am_n255, am_n999] at *; omega, rfl, rfl⟩ | exact Or.inr ⟨by simp only [Int32.lt_iff_toInt_lt, Int32.le_iff_toInt_le, ← Int32.toInt_inj, am_nm9, am_nm6, am_nm4, am_nm3, am_nm2, am_nm1, am_n0, am_n1, am_n2, am_n3, am_n4, am_n5, am_n6, am_n7, am_n8, am_n9, am_n10, am_n11, am_n12, am_n20, am_n35, am_n36, am_n60, am_n96, am_n99, am_n255, am_n999] at *; omega, rfl, rfl⟩
  · refine am_Rr.go 3 (σ' := (if m ≤ 9 then 13 else 11, [some (.ref 1), some (.int m)], [], x)) rfl ?_
    refine am_Rr.ite (fun h_2 => ?_) (fun h_2 => ?_)
    · refine am_Rr.go 4 (σ' := (19, [some (.ref 1), some (.int m)], [.int 1], (am_uI x 37 m))) rfl ?_
      refine am_Rr.ret (v := some (.int 1)) (x := (am_uI x 37 m)) rfl (by first | exact Or.inl rfl | exact Or.inr rfl | assumption) ?_
      first | exact Or.inl ⟨by simp only [Int32.lt_iff_toInt_lt, Int32.le_iff_toInt_le, ← Int32.toInt_inj, am_nm9, am_nm6, am_nm4, am_nm3, am_nm2, am_nm1, am_n0, am_n1, am_n2, am_n3, am_n4, am_n5, am_n6, am_n7, am_n8, am_n9, am_n10, am_n11, am_n12, am_n20, am_n35, am_n36, am_n60, am_n96, am_n99, am_n255, am_n999] at *; omega, rfl, rfl⟩ | exact Or.inr ⟨by simp only [Int32.lt_iff_toInt_lt, Int32.le_iff_toInt_le, ← Int32.toInt_inj, am_nm9, am_nm6, am_nm4, am_nm3, am_nm2, am_nm1, am_n0, am_n1, am_n2, am_n3, am_n4, am_n5, am_n6, am_n7, am_n8, am_n9, am_n10, am_n11, am_n12, am_n20, am_n35, am_n36, am_n60, am_n96, am_n99, am_n255, am_n999] at *; omega, rfl, rfl⟩
    · refine am_Rr.go 1 (σ' := (12, [some (.ref 1), some (.int m)], [.int 0], x)) rfl ?_
      refine am_Rr.ret (v := some (.int 0)) (x := x) rfl (by first | exact Or.inl rfl | exact Or.inr rfl | assumption) ?_
      first | exact Or.inl ⟨by simp only [Int32.lt_iff_toInt_lt, Int32.le_iff_toInt_le, ← Int32.toInt_inj, am_nm9, am_nm6, am_nm4, am_nm3, am_nm2, am_nm1, am_n0, am_n1, am_n2, am_n3, am_n4, am_n5, am_n6, am_n7, am_n8, am_n9, am_n10, am_n11, am_n12, am_n20, am_n35, am_n36, am_n60, am_n96, am_n99, am_n255, am_n999] at *; omega, rfl, rfl⟩ | exact Or.inr ⟨by simp only [Int32.lt_iff_toInt_lt, Int32.le_iff_toInt_le, ← Int32.toInt_inj, am_nm9, am_nm6, am_nm4, am_nm3, am_nm2, am_nm1, am_n0, am_n1, am_n2, am_n3, am_n4, am_n5, am_n6, am_n7, am_n8, am_n9, am_n10, am_n11, am_n12, am_n20, am_n35, am_n36, am_n60, am_n96, am_n99, am_n255, am_n999] at *; omega, rfl, rfl⟩
theorem S_takeWarm_1 (d : Nat) (m : Int32) (x : am_X) : am_T (d + 2) mX1_takeWarm [.ref 1, .int m] x (fun r x' => ((0 ≤ m.toInt ∧ m.toInt ≤ 9) ∧ r = some (.int 1) ∧ am_uI x 38 m = x') ∨ (¬ (0 ≤ m.toInt ∧ m.toInt ≤ 9) ∧ r = some (.int 0) ∧ x = x')) := by
  refine am_T.of rfl ?_
  show am_Rr _ kX1_takeWarm (0, [some (.ref 1), some (.int m)], [], x) _
  refine am_Rr.go 2 (σ' := (if m < 0 then 10 else 4, [some (.ref 1), some (.int m)], [], x)) rfl ?_
  refine am_Rr.ite (fun h_1 => ?_) (fun h_1 => ?_)
  · refine am_Rr.go 1 (σ' := (11, [some (.ref 1), some (.int m)], [.int 0], x)) rfl ?_
    refine am_Rr.ret (v := some (.int 0)) (x := x) rfl (by first | exact Or.inl rfl | exact Or.inr rfl | assumption) ?_
    first | exact Or.inl ⟨by simp only [Int32.lt_iff_toInt_lt, Int32.le_iff_toInt_le, ← Int32.toInt_inj, am_nm9, am_nm6, am_nm4, am_nm3, am_nm2, am_nm1, am_n0, am_n1, am_n2, am_n3, am_n4, am_n5, am_n6, am_n7, am_n8, am_n9, am_n10, am_n11, am_n12, am_n20, am_n35, am_n36, am_n60, am_n96, am_n99, am_n255, am_n999] at *; omega, rfl, rfl⟩ | exact Or.inr ⟨by simp only [Int32.lt_iff_toInt_lt, Int32.le_iff_toInt_le, ← Int32.toInt_inj, am_nm9, am_nm6, am_nm4, am_nm3, am_nm2, am_nm1, am_n0, am_n1, am_n2, am_n3, am_n4, am_n5, am_n6, am_n7, am_n8, am_n9, am_n10, am_n11, am_n12, am_n20, am_n35, am_n36, am_n60, am_n96, am_n99, am_n255, am_n999] at *; omega, rfl, rfl⟩
  · refine am_Rr.go 3 (σ' := (if m ≤ 9 then 12 else 10, [some (.ref 1), some (.int m)], [], x)) rfl ?_
    refine am_Rr.ite (fun h_2 => ?_) (fun h_2 => ?_)
    · refine am_Rr.go 4 (σ' := (18, [some (.ref 1), some (.int m)], [.int 1], (am_uI x 38 m))) rfl ?_
      refine am_Rr.ret (v := some (.int 1)) (x := (am_uI x 38 m)) rfl (by first | exact Or.inl rfl | exact Or.inr rfl | assumption) ?_
      first | exact Or.inl ⟨by simp only [Int32.lt_iff_toInt_lt, Int32.le_iff_toInt_le, ← Int32.toInt_inj, am_nm9, am_nm6, am_nm4, am_nm3, am_nm2, am_nm1, am_n0, am_n1, am_n2, am_n3, am_n4, am_n5, am_n6, am_n7, am_n8, am_n9, am_n10, am_n11, am_n12, am_n20, am_n35, am_n36, am_n60, am_n96, am_n99, am_n255, am_n999] at *; omega, rfl, rfl⟩ | exact Or.inr ⟨by simp only [Int32.lt_iff_toInt_lt, Int32.le_iff_toInt_le, ← Int32.toInt_inj, am_nm9, am_nm6, am_nm4, am_nm3, am_nm2, am_nm1, am_n0, am_n1, am_n2, am_n3, am_n4, am_n5, am_n6, am_n7, am_n8, am_n9, am_n10, am_n11, am_n12, am_n20, am_n35, am_n36, am_n60, am_n96, am_n99, am_n255, am_n999] at *; omega, rfl, rfl⟩
    · refine am_Rr.go 1 (σ' := (11, [some (.ref 1), some (.int m)], [.int 0], x)) rfl ?_
      refine am_Rr.ret (v := some (.int 0)) (x := x) rfl (by first | exact Or.inl rfl | exact Or.inr rfl | assumption) ?_
      first | exact Or.inl ⟨by simp only [Int32.lt_iff_toInt_lt, Int32.le_iff_toInt_le, ← Int32.toInt_inj, am_nm9, am_nm6, am_nm4, am_nm3, am_nm2, am_nm1, am_n0, am_n1, am_n2, am_n3, am_n4, am_n5, am_n6, am_n7, am_n8, am_n9, am_n10, am_n11, am_n12, am_n20, am_n35, am_n36, am_n60, am_n96, am_n99, am_n255, am_n999] at *; omega, rfl, rfl⟩ | exact Or.inr ⟨by simp only [Int32.lt_iff_toInt_lt, Int32.le_iff_toInt_le, ← Int32.toInt_inj, am_nm9, am_nm6, am_nm4, am_nm3, am_nm2, am_nm1, am_n0, am_n1, am_n2, am_n3, am_n4, am_n5, am_n6, am_n7, am_n8, am_n9, am_n10, am_n11, am_n12, am_n20, am_n35, am_n36, am_n60, am_n96, am_n99, am_n255, am_n999] at *; omega, rfl, rfl⟩
theorem S_liveAt_1 (d : Nat) (q : Int32) (x : am_X) : am_T (d + 5) mX1_liveAt [.ref 1, .int q] x (fun r x' => (am_hasb (am_open (x.2.2.2 2)) q ∧ r = some (.int 1) ∧ am_uI x 36 q = x') ∨ (¬ am_hasb (am_open (x.2.2.2 2)) q ∧ r = some (.int 0) ∧ x = x')) := by
  refine am_T.of rfl ?_
  show am_Rr _ kX1_liveAt (0, [some (.ref 1), some (.int q)], [], x) _
  refine am_Rr.go 1 (σ' := (1, [some (.ref 1), some (.int q)], [.ref 1], x)) rfl ?_
  refine am_Rr.call (pc := 4) (ls := [some (.ref 1), some (.int q)]) (st := []) rfl (S_open_1 (d + 1)  x) ?_
  rintro _ _ ⟨rfl, rfl⟩
  show am_Rr _ _ (4, [some (.ref 1), some (.int q)], [.long (am_open (x.2.2.2 2))], x) _
  refine am_Rr.go 1 (σ' := (5, [some (.ref 1), some (.int q)], [.int q, .long (am_open (x.2.2.2 2))], x)) rfl ?_
  refine am_Rr.call (pc := 8) (ls := [some (.ref 1), some (.int q)]) (st := []) rfl (S_has d (am_open (x.2.2.2 2)) q x) ?_
  rintro _ _ ⟨rfl, (⟨rfl, b_2⟩ | ⟨rfl, b_2⟩)⟩
  · show am_Rr _ _ (8, [some (.ref 1), some (.int q)], [.int 1], x) _
    refine am_Rr.go 5 (σ' := (19, [some (.ref 1), some (.int q)], [.int 1], (am_uI x 36 q))) rfl ?_
    refine am_Rr.ret (v := some (.int 1)) (x := (am_uI x 36 q)) rfl (by first | exact Or.inl rfl | exact Or.inr rfl | assumption) ?_
    first | exact Or.inl ⟨by assumption, rfl, rfl⟩ | exact Or.inr ⟨by assumption, rfl, rfl⟩
  · show am_Rr _ _ (8, [some (.ref 1), some (.int q)], [.int 0], x) _
    refine am_Rr.go 2 (σ' := (12, [some (.ref 1), some (.int q)], [.int 0], x)) rfl ?_
    refine am_Rr.ret (v := some (.int 0)) (x := x) rfl (by first | exact Or.inl rfl | exact Or.inr rfl | assumption) ?_
    first | exact Or.inl ⟨by assumption, rfl, rfl⟩ | exact Or.inr ⟨by assumption, rfl, rfl⟩
theorem S_kindOfSeeker_5 (d : Nat) (s : Int32) (x : am_X) : am_T (d + 3) mX1_kindOfSeeker [.ref 5, .int s] x (fun ro x' => x = x' ∧ ro = some (.int (am_ifs (x.1 163) (x.2.2.1 7) s 0))) := by
  refine am_T.of rfl ?_
  show am_Rr _ kX1_kindOfSeeker (0, [some (.ref 5), some (.int s)], [], x) _
  refine am_Rr.go 2 (σ' := (2, [some (.ref 5), some (.int s)], [.int s, .ref 5], x)) rfl ?_
  refine am_Rr.call (pc := 5) (ls := [some (.ref 5), some (.int s)]) (st := []) rfl (S_hasSeeker_5 d s x) ?_
  rintro _ _ ⟨rfl, (⟨rfl, b_1⟩ | ⟨rfl, b_1⟩)⟩
  · show am_Rr _ _ (5, [some (.ref 5), some (.int s)], [.int 1], x) _
    refine am_Rr.go 4 (σ' := (13, [some (.ref 5), some (.int s)], [.int s, .ref 7], x)) rfl ?_
    refine am_Rr.chk (σ' := (14, [some (.ref 5), some (.int s)], [.int ((x.2.2.1 7) s.toNatClampNeg)], x)) rfl (by rw [vp_in_iff]; exact ⟨by have := b_1.1; omega, by have := b_1.2.2; omega⟩) ?_
    refine am_Rr.go 1 (σ' := (18, [some (.ref 5), some (.int s)], [.int ((x.2.2.1 7) s.toNatClampNeg)], x)) rfl ?_
    refine am_Rr.ret (v := some (.int ((x.2.2.1 7) s.toNatClampNeg))) (x := x) rfl (by trivial) ?_
    exact ⟨rfl, by unfold am_ifs; unfold am_hs at b_1; first | rw [if_pos b_1] | rw [if_neg b_1]⟩
  · show am_Rr _ _ (5, [some (.ref 5), some (.int s)], [.int 0], x) _
    refine am_Rr.go 2 (σ' := (18, [some (.ref 5), some (.int s)], [.int 0], x)) rfl ?_
    refine am_Rr.ret (v := some (.int 0)) (x := x) rfl (by trivial) ?_
    exact ⟨rfl, by unfold am_ifs; unfold am_hs at b_1; first | rw [if_pos b_1] | rw [if_neg b_1]⟩
theorem S_squareOfSeeker_5 (d : Nat) (s : Int32) (x : am_X) : am_T (d + 3) mX1_squareOfSeeker [.ref 5, .int s] x (fun ro x' => x = x' ∧ ro = some (.int (am_ifs (x.1 163) (x.2.2.1 8) s (-9)))) := by
  refine am_T.of rfl ?_
  show am_Rr _ kX1_squareOfSeeker (0, [some (.ref 5), some (.int s)], [], x) _
  refine am_Rr.go 2 (σ' := (2, [some (.ref 5), some (.int s)], [.int s, .ref 5], x)) rfl ?_
  refine am_Rr.call (pc := 5) (ls := [some (.ref 5), some (.int s)]) (st := []) rfl (S_hasSeeker_5 d s x) ?_
  rintro _ _ ⟨rfl, (⟨rfl, b_1⟩ | ⟨rfl, b_1⟩)⟩
  · show am_Rr _ _ (5, [some (.ref 5), some (.int s)], [.int 1], x) _
    refine am_Rr.go 4 (σ' := (13, [some (.ref 5), some (.int s)], [.int s, .ref 8], x)) rfl ?_
    refine am_Rr.chk (σ' := (14, [some (.ref 5), some (.int s)], [.int ((x.2.2.1 8) s.toNatClampNeg)], x)) rfl (by rw [vp_in_iff]; exact ⟨by have := b_1.1; omega, by have := b_1.2.2; omega⟩) ?_
    refine am_Rr.go 1 (σ' := (19, [some (.ref 5), some (.int s)], [.int ((x.2.2.1 8) s.toNatClampNeg)], x)) rfl ?_
    refine am_Rr.ret (v := some (.int ((x.2.2.1 8) s.toNatClampNeg))) (x := x) rfl (by trivial) ?_
    exact ⟨rfl, by unfold am_ifs; unfold am_hs at b_1; first | rw [if_pos b_1] | rw [if_neg b_1]⟩
  · show am_Rr _ _ (5, [some (.ref 5), some (.int s)], [.int 0], x) _
    refine am_Rr.go 2 (σ' := (19, [some (.ref 5), some (.int s)], [.int (-9)], x)) rfl ?_
    refine am_Rr.ret (v := some (.int (-9))) (x := x) rfl (by trivial) ?_
    exact ⟨rfl, by unfold am_ifs; unfold am_hs at b_1; first | rw [if_pos b_1] | rw [if_neg b_1]⟩
theorem S_placeSeeker_5 (d : Nat) (s q : Int32) (x : am_X) : am_T (d + 3) mX1_placeSeeker [.ref 5, .int s, .int q] x (fun r x' => (am_hs (x.1 163) s ∧ r = none ∧ am_sA x 8 (upd (x.2.2.1 8) s.toNatClampNeg q) = x') ∨ (¬ am_hs (x.1 163) s ∧ r = none ∧ x = x')) := by
  refine am_T.of rfl ?_
  show am_Rr _ kX1_placeSeeker (0, [some (.ref 5), some (.int s), some (.int q)], [], x) _
  refine am_Rr.go 2 (σ' := (2, [some (.ref 5), some (.int s), some (.int q)], [.int s, .ref 5], x)) rfl ?_
  refine am_Rr.call (pc := 5) (ls := [some (.ref 5), some (.int s), some (.int q)]) (st := []) rfl (S_hasSeeker_5 d s x) ?_
  rintro _ _ ⟨rfl, (⟨rfl, b_1⟩ | ⟨rfl, b_1⟩)⟩
  · show am_Rr _ _ (5, [some (.ref 5), some (.int s), some (.int q)], [.int 1], x) _
    refine am_Rr.go 5 (σ' := (14, [some (.ref 5), some (.int s), some (.int q)], [.int q, .int s, .ref 8], x)) rfl ?_
    refine am_Rr.chk (σ' := (15, [some (.ref 5), some (.int s), some (.int q)], [], (am_sA x 8 (upd (x.2.2.1 8) s.toNatClampNeg q)))) rfl (by rw [vp_in_iff]; exact ⟨by have := b_1.1; omega, by have := b_1.2.2; omega⟩) ?_
    refine am_Rr.ret (v := none) (x := (am_sA x 8 (upd (x.2.2.1 8) s.toNatClampNeg q))) rfl (by trivial) ?_
    first | exact Or.inl ⟨by assumption, rfl, rfl⟩ | exact Or.inr ⟨by assumption, rfl, rfl⟩
  · show am_Rr _ _ (5, [some (.ref 5), some (.int s), some (.int q)], [.int 0], x) _
    refine am_Rr.go 1 (σ' := (15, [some (.ref 5), some (.int s), some (.int q)], [], x)) rfl ?_
    refine am_Rr.ret (v := none) (x := x) rfl (by trivial) ?_
    first | exact Or.inl ⟨by assumption, rfl, rfl⟩ | exact Or.inr ⟨by assumption, rfl, rfl⟩
theorem S_takePace_5 (d : Nat) (m : Int32) (x : am_X) : am_T (d + 2) mX1_takePace [.ref 5, .int m] x (fun r x' => ((1 ≤ m.toInt ∧ m.toInt ≤ 9) ∧ r = some (.int 1) ∧ am_uI x 165 m = x') ∨ (¬ (1 ≤ m.toInt ∧ m.toInt ≤ 9) ∧ r = some (.int 0) ∧ x = x')) := by
  refine am_T.of rfl ?_
  show am_Rr _ kX1_takePace (0, [some (.ref 5), some (.int m)], [], x) _
  refine am_Rr.go 3 (σ' := (if m < 1 then 11 else 5, [some (.ref 5), some (.int m)], [], x)) rfl ?_
  refine am_Rr.ite (fun h_1 => ?_) (fun h_1 => ?_)
  · refine am_Rr.go 1 (σ' := (12, [some (.ref 5), some (.int m)], [.int 0], x)) rfl ?_
    refine am_Rr.ret (v := some (.int 0)) (x := x) rfl (by first | exact Or.inl rfl | exact Or.inr rfl | assumption) ?_
    first | exact Or.inl ⟨by simp only [Int32.lt_iff_toInt_lt, Int32.le_iff_toInt_le, ← Int32.toInt_inj, am_nm9, am_nm6, am_nm4, am_nm3, am_nm2, am_nm1, am_n0, am_n1, am_n2, am_n3, am_n4, am_n5, am_n6, am_n7, am_n8, am_n9, am_n10, am_n11, am_n12, am_n20, am_n35, am_n36, am_n60, am_n96, am_n99, am_n255, am_n999] at *; omega, rfl, rfl⟩ | exact Or.inr ⟨by simp only [Int32.lt_iff_toInt_lt, Int32.le_iff_toInt_le, ← Int32.toInt_inj, am_nm9, am_nm6, am_nm4, am_nm3, am_nm2, am_nm1, am_n0, am_n1, am_n2, am_n3, am_n4, am_n5, am_n6, am_n7, am_n8, am_n9, am_n10, am_n11, am_n12, am_n20, am_n35, am_n36, am_n60, am_n96, am_n99, am_n255, am_n999] at *; omega, rfl, rfl⟩
  · refine am_Rr.go 3 (σ' := (if m ≤ 9 then 13 else 11, [some (.ref 5), some (.int m)], [], x)) rfl ?_
    refine am_Rr.ite (fun h_2 => ?_) (fun h_2 => ?_)
    · refine am_Rr.go 4 (σ' := (19, [some (.ref 5), some (.int m)], [.int 1], (am_uI x 165 m))) rfl ?_
      refine am_Rr.ret (v := some (.int 1)) (x := (am_uI x 165 m)) rfl (by first | exact Or.inl rfl | exact Or.inr rfl | assumption) ?_
      first | exact Or.inl ⟨by simp only [Int32.lt_iff_toInt_lt, Int32.le_iff_toInt_le, ← Int32.toInt_inj, am_nm9, am_nm6, am_nm4, am_nm3, am_nm2, am_nm1, am_n0, am_n1, am_n2, am_n3, am_n4, am_n5, am_n6, am_n7, am_n8, am_n9, am_n10, am_n11, am_n12, am_n20, am_n35, am_n36, am_n60, am_n96, am_n99, am_n255, am_n999] at *; omega, rfl, rfl⟩ | exact Or.inr ⟨by simp only [Int32.lt_iff_toInt_lt, Int32.le_iff_toInt_le, ← Int32.toInt_inj, am_nm9, am_nm6, am_nm4, am_nm3, am_nm2, am_nm1, am_n0, am_n1, am_n2, am_n3, am_n4, am_n5, am_n6, am_n7, am_n8, am_n9, am_n10, am_n11, am_n12, am_n20, am_n35, am_n36, am_n60, am_n96, am_n99, am_n255, am_n999] at *; omega, rfl, rfl⟩
    · refine am_Rr.go 1 (σ' := (12, [some (.ref 5), some (.int m)], [.int 0], x)) rfl ?_
      refine am_Rr.ret (v := some (.int 0)) (x := x) rfl (by first | exact Or.inl rfl | exact Or.inr rfl | assumption) ?_
      first | exact Or.inl ⟨by simp only [Int32.lt_iff_toInt_lt, Int32.le_iff_toInt_le, ← Int32.toInt_inj, am_nm9, am_nm6, am_nm4, am_nm3, am_nm2, am_nm1, am_n0, am_n1, am_n2, am_n3, am_n4, am_n5, am_n6, am_n7, am_n8, am_n9, am_n10, am_n11, am_n12, am_n20, am_n35, am_n36, am_n60, am_n96, am_n99, am_n255, am_n999] at *; omega, rfl, rfl⟩ | exact Or.inr ⟨by simp only [Int32.lt_iff_toInt_lt, Int32.le_iff_toInt_le, ← Int32.toInt_inj, am_nm9, am_nm6, am_nm4, am_nm3, am_nm2, am_nm1, am_n0, am_n1, am_n2, am_n3, am_n4, am_n5, am_n6, am_n7, am_n8, am_n9, am_n10, am_n11, am_n12, am_n20, am_n35, am_n36, am_n60, am_n96, am_n99, am_n255, am_n999] at *; omega, rfl, rfl⟩
theorem S_takeWarm_5 (d : Nat) (m : Int32) (x : am_X) : am_T (d + 2) mX1_takeWarm [.ref 5, .int m] x (fun r x' => ((0 ≤ m.toInt ∧ m.toInt ≤ 9) ∧ r = some (.int 1) ∧ am_uI x 166 m = x') ∨ (¬ (0 ≤ m.toInt ∧ m.toInt ≤ 9) ∧ r = some (.int 0) ∧ x = x')) := by
  refine am_T.of rfl ?_
  show am_Rr _ kX1_takeWarm (0, [some (.ref 5), some (.int m)], [], x) _
  refine am_Rr.go 2 (σ' := (if m < 0 then 10 else 4, [some (.ref 5), some (.int m)], [], x)) rfl ?_
  refine am_Rr.ite (fun h_1 => ?_) (fun h_1 => ?_)
  · refine am_Rr.go 1 (σ' := (11, [some (.ref 5), some (.int m)], [.int 0], x)) rfl ?_
    refine am_Rr.ret (v := some (.int 0)) (x := x) rfl (by first | exact Or.inl rfl | exact Or.inr rfl | assumption) ?_
    first | exact Or.inl ⟨by simp only [Int32.lt_iff_toInt_lt, Int32.le_iff_toInt_le, ← Int32.toInt_inj, am_nm9, am_nm6, am_nm4, am_nm3, am_nm2, am_nm1, am_n0, am_n1, am_n2, am_n3, am_n4, am_n5, am_n6, am_n7, am_n8, am_n9, am_n10, am_n11, am_n12, am_n20, am_n35, am_n36, am_n60, am_n96, am_n99, am_n255, am_n999] at *; omega, rfl, rfl⟩ | exact Or.inr ⟨by simp only [Int32.lt_iff_toInt_lt, Int32.le_iff_toInt_le, ← Int32.toInt_inj, am_nm9, am_nm6, am_nm4, am_nm3, am_nm2, am_nm1, am_n0, am_n1, am_n2, am_n3, am_n4, am_n5, am_n6, am_n7, am_n8, am_n9, am_n10, am_n11, am_n12, am_n20, am_n35, am_n36, am_n60, am_n96, am_n99, am_n255, am_n999] at *; omega, rfl, rfl⟩
  · refine am_Rr.go 3 (σ' := (if m ≤ 9 then 12 else 10, [some (.ref 5), some (.int m)], [], x)) rfl ?_
    refine am_Rr.ite (fun h_2 => ?_) (fun h_2 => ?_)
    · refine am_Rr.go 4 (σ' := (18, [some (.ref 5), some (.int m)], [.int 1], (am_uI x 166 m))) rfl ?_
      refine am_Rr.ret (v := some (.int 1)) (x := (am_uI x 166 m)) rfl (by first | exact Or.inl rfl | exact Or.inr rfl | assumption) ?_
      first | exact Or.inl ⟨by simp only [Int32.lt_iff_toInt_lt, Int32.le_iff_toInt_le, ← Int32.toInt_inj, am_nm9, am_nm6, am_nm4, am_nm3, am_nm2, am_nm1, am_n0, am_n1, am_n2, am_n3, am_n4, am_n5, am_n6, am_n7, am_n8, am_n9, am_n10, am_n11, am_n12, am_n20, am_n35, am_n36, am_n60, am_n96, am_n99, am_n255, am_n999] at *; omega, rfl, rfl⟩ | exact Or.inr ⟨by simp only [Int32.lt_iff_toInt_lt, Int32.le_iff_toInt_le, ← Int32.toInt_inj, am_nm9, am_nm6, am_nm4, am_nm3, am_nm2, am_nm1, am_n0, am_n1, am_n2, am_n3, am_n4, am_n5, am_n6, am_n7, am_n8, am_n9, am_n10, am_n11, am_n12, am_n20, am_n35, am_n36, am_n60, am_n96, am_n99, am_n255, am_n999] at *; omega, rfl, rfl⟩
    · refine am_Rr.go 1 (σ' := (11, [some (.ref 5), some (.int m)], [.int 0], x)) rfl ?_
      refine am_Rr.ret (v := some (.int 0)) (x := x) rfl (by first | exact Or.inl rfl | exact Or.inr rfl | assumption) ?_
      first | exact Or.inl ⟨by simp only [Int32.lt_iff_toInt_lt, Int32.le_iff_toInt_le, ← Int32.toInt_inj, am_nm9, am_nm6, am_nm4, am_nm3, am_nm2, am_nm1, am_n0, am_n1, am_n2, am_n3, am_n4, am_n5, am_n6, am_n7, am_n8, am_n9, am_n10, am_n11, am_n12, am_n20, am_n35, am_n36, am_n60, am_n96, am_n99, am_n255, am_n999] at *; omega, rfl, rfl⟩ | exact Or.inr ⟨by simp only [Int32.lt_iff_toInt_lt, Int32.le_iff_toInt_le, ← Int32.toInt_inj, am_nm9, am_nm6, am_nm4, am_nm3, am_nm2, am_nm1, am_n0, am_n1, am_n2, am_n3, am_n4, am_n5, am_n6, am_n7, am_n8, am_n9, am_n10, am_n11, am_n12, am_n20, am_n35, am_n36, am_n60, am_n96, am_n99, am_n255, am_n999] at *; omega, rfl, rfl⟩
theorem S_liveAt_5 (d : Nat) (q : Int32) (x : am_X) : am_T (d + 5) mX1_liveAt [.ref 5, .int q] x (fun r x' => (am_hasb (am_open (x.2.2.2 6)) q ∧ r = some (.int 1) ∧ am_uI x 164 q = x') ∨ (¬ am_hasb (am_open (x.2.2.2 6)) q ∧ r = some (.int 0) ∧ x = x')) := by
  refine am_T.of rfl ?_
  show am_Rr _ kX1_liveAt (0, [some (.ref 5), some (.int q)], [], x) _
  refine am_Rr.go 1 (σ' := (1, [some (.ref 5), some (.int q)], [.ref 5], x)) rfl ?_
  refine am_Rr.call (pc := 4) (ls := [some (.ref 5), some (.int q)]) (st := []) rfl (S_open_5 (d + 1)  x) ?_
  rintro _ _ ⟨rfl, rfl⟩
  show am_Rr _ _ (4, [some (.ref 5), some (.int q)], [.long (am_open (x.2.2.2 6))], x) _
  refine am_Rr.go 1 (σ' := (5, [some (.ref 5), some (.int q)], [.int q, .long (am_open (x.2.2.2 6))], x)) rfl ?_
  refine am_Rr.call (pc := 8) (ls := [some (.ref 5), some (.int q)]) (st := []) rfl (S_has d (am_open (x.2.2.2 6)) q x) ?_
  rintro _ _ ⟨rfl, (⟨rfl, b_2⟩ | ⟨rfl, b_2⟩)⟩
  · show am_Rr _ _ (8, [some (.ref 5), some (.int q)], [.int 1], x) _
    refine am_Rr.go 5 (σ' := (19, [some (.ref 5), some (.int q)], [.int 1], (am_uI x 164 q))) rfl ?_
    refine am_Rr.ret (v := some (.int 1)) (x := (am_uI x 164 q)) rfl (by first | exact Or.inl rfl | exact Or.inr rfl | assumption) ?_
    first | exact Or.inl ⟨by assumption, rfl, rfl⟩ | exact Or.inr ⟨by assumption, rfl, rfl⟩
  · show am_Rr _ _ (8, [some (.ref 5), some (.int q)], [.int 0], x) _
    refine am_Rr.go 2 (σ' := (12, [some (.ref 5), some (.int q)], [.int 0], x)) rfl ?_
    refine am_Rr.ret (v := some (.int 0)) (x := x) rfl (by first | exact Or.inl rfl | exact Or.inr rfl | assumption) ?_
    first | exact Or.inl ⟨by assumption, rfl, rfl⟩ | exact Or.inr ⟨by assumption, rfl, rfl⟩
theorem S_kindOfSeeker_9 (d : Nat) (s : Int32) (x : am_X) : am_T (d + 3) mX1_kindOfSeeker [.ref 9, .int s] x (fun ro x' => x = x' ∧ ro = some (.int (am_ifs (x.1 291) (x.2.2.1 11) s 0))) := by
  refine am_T.of rfl ?_
  show am_Rr _ kX1_kindOfSeeker (0, [some (.ref 9), some (.int s)], [], x) _
  refine am_Rr.go 2 (σ' := (2, [some (.ref 9), some (.int s)], [.int s, .ref 9], x)) rfl ?_
  refine am_Rr.call (pc := 5) (ls := [some (.ref 9), some (.int s)]) (st := []) rfl (S_hasSeeker_9 d s x) ?_
  rintro _ _ ⟨rfl, (⟨rfl, b_1⟩ | ⟨rfl, b_1⟩)⟩
  · show am_Rr _ _ (5, [some (.ref 9), some (.int s)], [.int 1], x) _
    refine am_Rr.go 4 (σ' := (13, [some (.ref 9), some (.int s)], [.int s, .ref 11], x)) rfl ?_
    refine am_Rr.chk (σ' := (14, [some (.ref 9), some (.int s)], [.int ((x.2.2.1 11) s.toNatClampNeg)], x)) rfl (by rw [vp_in_iff]; exact ⟨by have := b_1.1; omega, by have := b_1.2.2; omega⟩) ?_
    refine am_Rr.go 1 (σ' := (18, [some (.ref 9), some (.int s)], [.int ((x.2.2.1 11) s.toNatClampNeg)], x)) rfl ?_
    refine am_Rr.ret (v := some (.int ((x.2.2.1 11) s.toNatClampNeg))) (x := x) rfl (by trivial) ?_
    exact ⟨rfl, by unfold am_ifs; unfold am_hs at b_1; first | rw [if_pos b_1] | rw [if_neg b_1]⟩
  · show am_Rr _ _ (5, [some (.ref 9), some (.int s)], [.int 0], x) _
    refine am_Rr.go 2 (σ' := (18, [some (.ref 9), some (.int s)], [.int 0], x)) rfl ?_
    refine am_Rr.ret (v := some (.int 0)) (x := x) rfl (by trivial) ?_
    exact ⟨rfl, by unfold am_ifs; unfold am_hs at b_1; first | rw [if_pos b_1] | rw [if_neg b_1]⟩
theorem S_squareOfSeeker_9 (d : Nat) (s : Int32) (x : am_X) : am_T (d + 3) mX1_squareOfSeeker [.ref 9, .int s] x (fun ro x' => x = x' ∧ ro = some (.int (am_ifs (x.1 291) (x.2.2.1 12) s (-9)))) := by
  refine am_T.of rfl ?_
  show am_Rr _ kX1_squareOfSeeker (0, [some (.ref 9), some (.int s)], [], x) _
  refine am_Rr.go 2 (σ' := (2, [some (.ref 9), some (.int s)], [.int s, .ref 9], x)) rfl ?_
  refine am_Rr.call (pc := 5) (ls := [some (.ref 9), some (.int s)]) (st := []) rfl (S_hasSeeker_9 d s x) ?_
  rintro _ _ ⟨rfl, (⟨rfl, b_1⟩ | ⟨rfl, b_1⟩)⟩
  · show am_Rr _ _ (5, [some (.ref 9), some (.int s)], [.int 1], x) _
    refine am_Rr.go 4 (σ' := (13, [some (.ref 9), some (.int s)], [.int s, .ref 12], x)) rfl ?_
    refine am_Rr.chk (σ' := (14, [some (.ref 9), some (.int s)], [.int ((x.2.2.1 12) s.toNatClampNeg)], x)) rfl (by rw [vp_in_iff]; exact ⟨by have := b_1.1; omega, by have := b_1.2.2; omega⟩) ?_
    refine am_Rr.go 1 (σ' := (19, [some (.ref 9), some (.int s)], [.int ((x.2.2.1 12) s.toNatClampNeg)], x)) rfl ?_
    refine am_Rr.ret (v := some (.int ((x.2.2.1 12) s.toNatClampNeg))) (x := x) rfl (by trivial) ?_
    exact ⟨rfl, by unfold am_ifs; unfold am_hs at b_1; first | rw [if_pos b_1] | rw [if_neg b_1]⟩
  · show am_Rr _ _ (5, [some (.ref 9), some (.int s)], [.int 0], x) _
    refine am_Rr.go 2 (σ' := (19, [some (.ref 9), some (.int s)], [.int (-9)], x)) rfl ?_
    refine am_Rr.ret (v := some (.int (-9))) (x := x) rfl (by trivial) ?_
    exact ⟨rfl, by unfold am_ifs; unfold am_hs at b_1; first | rw [if_pos b_1] | rw [if_neg b_1]⟩
theorem S_placeSeeker_9 (d : Nat) (s q : Int32) (x : am_X) : am_T (d + 3) mX1_placeSeeker [.ref 9, .int s, .int q] x (fun r x' => (am_hs (x.1 291) s ∧ r = none ∧ am_sA x 12 (upd (x.2.2.1 12) s.toNatClampNeg q) = x') ∨ (¬ am_hs (x.1 291) s ∧ r = none ∧ x = x')) := by
  refine am_T.of rfl ?_
  show am_Rr _ kX1_placeSeeker (0, [some (.ref 9), some (.int s), some (.int q)], [], x) _
  refine am_Rr.go 2 (σ' := (2, [some (.ref 9), some (.int s), some (.int q)], [.int s, .ref 9], x)) rfl ?_
  refine am_Rr.call (pc := 5) (ls := [some (.ref 9), some (.int s), some (.int q)]) (st := []) rfl (S_hasSeeker_9 d s x) ?_
  rintro _ _ ⟨rfl, (⟨rfl, b_1⟩ | ⟨rfl, b_1⟩)⟩
  · show am_Rr _ _ (5, [some (.ref 9), some (.int s), some (.int q)], [.int 1], x) _
    refine am_Rr.go 5 (σ' := (14, [some (.ref 9), some (.int s), some (.int q)], [.int q, .int s, .ref 12], x)) rfl ?_
    refine am_Rr.chk (σ' := (15, [some (.ref 9), some (.int s), some (.int q)], [], (am_sA x 12 (upd (x.2.2.1 12) s.toNatClampNeg q)))) rfl (by rw [vp_in_iff]; exact ⟨by have := b_1.1; omega, by have := b_1.2.2; omega⟩) ?_
    refine am_Rr.ret (v := none) (x := (am_sA x 12 (upd (x.2.2.1 12) s.toNatClampNeg q))) rfl (by trivial) ?_
    first | exact Or.inl ⟨by assumption, rfl, rfl⟩ | exact Or.inr ⟨by assumption, rfl, rfl⟩
  · show am_Rr _ _ (5, [some (.ref 9), some (.int s), some (.int q)], [.int 0], x) _
    refine am_Rr.go 1 (σ' := (15, [some (.ref 9), some (.int s), some (.int q)], [], x)) rfl ?_
    refine am_Rr.ret (v := none) (x := x) rfl (by trivial) ?_
    first | exact Or.inl ⟨by assumption, rfl, rfl⟩ | exact Or.inr ⟨by assumption, rfl, rfl⟩
theorem S_takePace_9 (d : Nat) (m : Int32) (x : am_X) : am_T (d + 2) mX1_takePace [.ref 9, .int m] x (fun r x' => ((1 ≤ m.toInt ∧ m.toInt ≤ 9) ∧ r = some (.int 1) ∧ am_uI x 293 m = x') ∨ (¬ (1 ≤ m.toInt ∧ m.toInt ≤ 9) ∧ r = some (.int 0) ∧ x = x')) := by
  refine am_T.of rfl ?_
  show am_Rr _ kX1_takePace (0, [some (.ref 9), some (.int m)], [], x) _
  refine am_Rr.go 3 (σ' := (if m < 1 then 11 else 5, [some (.ref 9), some (.int m)], [], x)) rfl ?_
  refine am_Rr.ite (fun h_1 => ?_) (fun h_1 => ?_)
  · refine am_Rr.go 1 (σ' := (12, [some (.ref 9), some (.int m)], [.int 0], x)) rfl ?_
    refine am_Rr.ret (v := some (.int 0)) (x := x) rfl (by first | exact Or.inl rfl | exact Or.inr rfl | assumption) ?_
    first | exact Or.inl ⟨by simp only [Int32.lt_iff_toInt_lt, Int32.le_iff_toInt_le, ← Int32.toInt_inj, am_nm9, am_nm6, am_nm4, am_nm3, am_nm2, am_nm1, am_n0, am_n1, am_n2, am_n3, am_n4, am_n5, am_n6, am_n7, am_n8, am_n9, am_n10, am_n11, am_n12, am_n20, am_n35, am_n36, am_n60, am_n96, am_n99, am_n255, am_n999] at *; omega, rfl, rfl⟩ | exact Or.inr ⟨by simp only [Int32.lt_iff_toInt_lt, Int32.le_iff_toInt_le, ← Int32.toInt_inj, am_nm9, am_nm6, am_nm4, am_nm3, am_nm2, am_nm1, am_n0, am_n1, am_n2, am_n3, am_n4, am_n5, am_n6, am_n7, am_n8, am_n9, am_n10, am_n11, am_n12, am_n20, am_n35, am_n36, am_n60, am_n96, am_n99, am_n255, am_n999] at *; omega, rfl, rfl⟩
  · refine am_Rr.go 3 (σ' := (if m ≤ 9 then 13 else 11, [some (.ref 9), some (.int m)], [], x)) rfl ?_
    refine am_Rr.ite (fun h_2 => ?_) (fun h_2 => ?_)
    · refine am_Rr.go 4 (σ' := (19, [some (.ref 9), some (.int m)], [.int 1], (am_uI x 293 m))) rfl ?_
      refine am_Rr.ret (v := some (.int 1)) (x := (am_uI x 293 m)) rfl (by first | exact Or.inl rfl | exact Or.inr rfl | assumption) ?_
      first | exact Or.inl ⟨by simp only [Int32.lt_iff_toInt_lt, Int32.le_iff_toInt_le, ← Int32.toInt_inj, am_nm9, am_nm6, am_nm4, am_nm3, am_nm2, am_nm1, am_n0, am_n1, am_n2, am_n3, am_n4, am_n5, am_n6, am_n7, am_n8, am_n9, am_n10, am_n11, am_n12, am_n20, am_n35, am_n36, am_n60, am_n96, am_n99, am_n255, am_n999] at *; omega, rfl, rfl⟩ | exact Or.inr ⟨by simp only [Int32.lt_iff_toInt_lt, Int32.le_iff_toInt_le, ← Int32.toInt_inj, am_nm9, am_nm6, am_nm4, am_nm3, am_nm2, am_nm1, am_n0, am_n1, am_n2, am_n3, am_n4, am_n5, am_n6, am_n7, am_n8, am_n9, am_n10, am_n11, am_n12, am_n20, am_n35, am_n36, am_n60, am_n96, am_n99, am_n255, am_n999] at *; omega, rfl, rfl⟩
    · refine am_Rr.go 1 (σ' := (12, [some (.ref 9), some (.int m)], [.int 0], x)) rfl ?_
      refine am_Rr.ret (v := some (.int 0)) (x := x) rfl (by first | exact Or.inl rfl | exact Or.inr rfl | assumption) ?_
      first | exact Or.inl ⟨by simp only [Int32.lt_iff_toInt_lt, Int32.le_iff_toInt_le, ← Int32.toInt_inj, am_nm9, am_nm6, am_nm4, am_nm3, am_nm2, am_nm1, am_n0, am_n1, am_n2, am_n3, am_n4, am_n5, am_n6, am_n7, am_n8, am_n9, am_n10, am_n11, am_n12, am_n20, am_n35, am_n36, am_n60, am_n96, am_n99, am_n255, am_n999] at *; omega, rfl, rfl⟩ | exact Or.inr ⟨by simp only [Int32.lt_iff_toInt_lt, Int32.le_iff_toInt_le, ← Int32.toInt_inj, am_nm9, am_nm6, am_nm4, am_nm3, am_nm2, am_nm1, am_n0, am_n1, am_n2, am_n3, am_n4, am_n5, am_n6, am_n7, am_n8, am_n9, am_n10, am_n11, am_n12, am_n20, am_n35, am_n36, am_n60, am_n96, am_n99, am_n255, am_n999] at *; omega, rfl, rfl⟩
theorem S_takeWarm_9 (d : Nat) (m : Int32) (x : am_X) : am_T (d + 2) mX1_takeWarm [.ref 9, .int m] x (fun r x' => ((0 ≤ m.toInt ∧ m.toInt ≤ 9) ∧ r = some (.int 1) ∧ am_uI x 294 m = x') ∨ (¬ (0 ≤ m.toInt ∧ m.toInt ≤ 9) ∧ r = some (.int 0) ∧ x = x')) := by
  refine am_T.of rfl ?_
  show am_Rr _ kX1_takeWarm (0, [some (.ref 9), some (.int m)], [], x) _
  refine am_Rr.go 2 (σ' := (if m < 0 then 10 else 4, [some (.ref 9), some (.int m)], [], x)) rfl ?_
  refine am_Rr.ite (fun h_1 => ?_) (fun h_1 => ?_)
  · refine am_Rr.go 1 (σ' := (11, [some (.ref 9), some (.int m)], [.int 0], x)) rfl ?_
    refine am_Rr.ret (v := some (.int 0)) (x := x) rfl (by first | exact Or.inl rfl | exact Or.inr rfl | assumption) ?_
    first | exact Or.inl ⟨by simp only [Int32.lt_iff_toInt_lt, Int32.le_iff_toInt_le, ← Int32.toInt_inj, am_nm9, am_nm6, am_nm4, am_nm3, am_nm2, am_nm1, am_n0, am_n1, am_n2, am_n3, am_n4, am_n5, am_n6, am_n7, am_n8, am_n9, am_n10, am_n11, am_n12, am_n20, am_n35, am_n36, am_n60, am_n96, am_n99, am_n255, am_n999] at *; omega, rfl, rfl⟩ | exact Or.inr ⟨by simp only [Int32.lt_iff_toInt_lt, Int32.le_iff_toInt_le, ← Int32.toInt_inj, am_nm9, am_nm6, am_nm4, am_nm3, am_nm2, am_nm1, am_n0, am_n1, am_n2, am_n3, am_n4, am_n5, am_n6, am_n7, am_n8, am_n9, am_n10, am_n11, am_n12, am_n20, am_n35, am_n36, am_n60, am_n96, am_n99, am_n255, am_n999] at *; omega, rfl, rfl⟩
  · refine am_Rr.go 3 (σ' := (if m ≤ 9 then 12 else 10, [some (.ref 9), some (.int m)], [], x)) rfl ?_
    refine am_Rr.ite (fun h_2 => ?_) (fun h_2 => ?_)
    · refine am_Rr.go 4 (σ' := (18, [some (.ref 9), some (.int m)], [.int 1], (am_uI x 294 m))) rfl ?_
      refine am_Rr.ret (v := some (.int 1)) (x := (am_uI x 294 m)) rfl (by first | exact Or.inl rfl | exact Or.inr rfl | assumption) ?_
      first | exact Or.inl ⟨by simp only [Int32.lt_iff_toInt_lt, Int32.le_iff_toInt_le, ← Int32.toInt_inj, am_nm9, am_nm6, am_nm4, am_nm3, am_nm2, am_nm1, am_n0, am_n1, am_n2, am_n3, am_n4, am_n5, am_n6, am_n7, am_n8, am_n9, am_n10, am_n11, am_n12, am_n20, am_n35, am_n36, am_n60, am_n96, am_n99, am_n255, am_n999] at *; omega, rfl, rfl⟩ | exact Or.inr ⟨by simp only [Int32.lt_iff_toInt_lt, Int32.le_iff_toInt_le, ← Int32.toInt_inj, am_nm9, am_nm6, am_nm4, am_nm3, am_nm2, am_nm1, am_n0, am_n1, am_n2, am_n3, am_n4, am_n5, am_n6, am_n7, am_n8, am_n9, am_n10, am_n11, am_n12, am_n20, am_n35, am_n36, am_n60, am_n96, am_n99, am_n255, am_n999] at *; omega, rfl, rfl⟩
    · refine am_Rr.go 1 (σ' := (11, [some (.ref 9), some (.int m)], [.int 0], x)) rfl ?_
      refine am_Rr.ret (v := some (.int 0)) (x := x) rfl (by first | exact Or.inl rfl | exact Or.inr rfl | assumption) ?_
      first | exact Or.inl ⟨by simp only [Int32.lt_iff_toInt_lt, Int32.le_iff_toInt_le, ← Int32.toInt_inj, am_nm9, am_nm6, am_nm4, am_nm3, am_nm2, am_nm1, am_n0, am_n1, am_n2, am_n3, am_n4, am_n5, am_n6, am_n7, am_n8, am_n9, am_n10, am_n11, am_n12, am_n20, am_n35, am_n36, am_n60, am_n96, am_n99, am_n255, am_n999] at *; omega, rfl, rfl⟩ | exact Or.inr ⟨by simp only [Int32.lt_iff_toInt_lt, Int32.le_iff_toInt_le, ← Int32.toInt_inj, am_nm9, am_nm6, am_nm4, am_nm3, am_nm2, am_nm1, am_n0, am_n1, am_n2, am_n3, am_n4, am_n5, am_n6, am_n7, am_n8, am_n9, am_n10, am_n11, am_n12, am_n20, am_n35, am_n36, am_n60, am_n96, am_n99, am_n255, am_n999] at *; omega, rfl, rfl⟩
theorem S_liveAt_9 (d : Nat) (q : Int32) (x : am_X) : am_T (d + 5) mX1_liveAt [.ref 9, .int q] x (fun r x' => (am_hasb (am_open (x.2.2.2 10)) q ∧ r = some (.int 1) ∧ am_uI x 292 q = x') ∨ (¬ am_hasb (am_open (x.2.2.2 10)) q ∧ r = some (.int 0) ∧ x = x')) := by
  refine am_T.of rfl ?_
  show am_Rr _ kX1_liveAt (0, [some (.ref 9), some (.int q)], [], x) _
  refine am_Rr.go 1 (σ' := (1, [some (.ref 9), some (.int q)], [.ref 9], x)) rfl ?_
  refine am_Rr.call (pc := 4) (ls := [some (.ref 9), some (.int q)]) (st := []) rfl (S_open_9 (d + 1)  x) ?_
  rintro _ _ ⟨rfl, rfl⟩
  show am_Rr _ _ (4, [some (.ref 9), some (.int q)], [.long (am_open (x.2.2.2 10))], x) _
  refine am_Rr.go 1 (σ' := (5, [some (.ref 9), some (.int q)], [.int q, .long (am_open (x.2.2.2 10))], x)) rfl ?_
  refine am_Rr.call (pc := 8) (ls := [some (.ref 9), some (.int q)]) (st := []) rfl (S_has d (am_open (x.2.2.2 10)) q x) ?_
  rintro _ _ ⟨rfl, (⟨rfl, b_2⟩ | ⟨rfl, b_2⟩)⟩
  · show am_Rr _ _ (8, [some (.ref 9), some (.int q)], [.int 1], x) _
    refine am_Rr.go 5 (σ' := (19, [some (.ref 9), some (.int q)], [.int 1], (am_uI x 292 q))) rfl ?_
    refine am_Rr.ret (v := some (.int 1)) (x := (am_uI x 292 q)) rfl (by first | exact Or.inl rfl | exact Or.inr rfl | assumption) ?_
    first | exact Or.inl ⟨by assumption, rfl, rfl⟩ | exact Or.inr ⟨by assumption, rfl, rfl⟩
  · show am_Rr _ _ (8, [some (.ref 9), some (.int q)], [.int 0], x) _
    refine am_Rr.go 2 (σ' := (12, [some (.ref 9), some (.int q)], [.int 0], x)) rfl ?_
    refine am_Rr.ret (v := some (.int 0)) (x := x) rfl (by first | exact Or.inl rfl | exact Or.inr rfl | assumption) ?_
    first | exact Or.inl ⟨by assumption, rfl, rfl⟩ | exact Or.inr ⟨by assumption, rfl, rfl⟩
def am_bec_5_1 (x : am_X) : am_X := (am_uI (am_uI (am_uI (am_uI (am_sA (am_sA (am_sB x 6 (va_cpy (x.2.2.2 2) (x.2.2.2 6) 0 0 6)) 7 (va_cpy (x.2.2.1 3) (x.2.2.1 7) 0 0 3)) 8 (va_cpy (x.2.2.1 4) (x.2.2.1 8) 0 0 3)) 163 (x.1 35)) 164 (x.1 36)) 165 (x.1 37)) 166 (x.1 38))
theorem S_become_5_1 (d : Nat) (x : am_X) : am_T (d + 2) mX1_become [.ref 5, .ref 1] x (fun r x' => r = none ∧ am_bec_5_1 x = x') := by
  refine am_T.of rfl ?_
  show am_Rr _ kX1_become (0, [some (.ref 5), some (.ref 1)], [], x) _
  refine am_Rr.go 7 (σ' := (12, [some (.ref 5), some (.ref 1)], [.int 6, .int 0, .ref 6, .int 0, .ref 2], x)) rfl ?_
  refine am_Rr.chk (σ' := (15, [some (.ref 5), some (.ref 1)], [], (am_sB x 6 (va_cpy (x.2.2.2 2) (x.2.2.2 6) 0 0 6)))) rfl (by decide) ?_
  refine am_Rr.go 7 (σ' := (26, [some (.ref 5), some (.ref 1)], [.int 3, .int 0, .ref 7, .int 0, .ref 3], (am_sB x 6 (va_cpy (x.2.2.2 2) (x.2.2.2 6) 0 0 6)))) rfl ?_
  refine am_Rr.chk (σ' := (29, [some (.ref 5), some (.ref 1)], [], (am_sA (am_sB x 6 (va_cpy (x.2.2.2 2) (x.2.2.2 6) 0 0 6)) 7 (va_cpy (x.2.2.1 3) (x.2.2.1 7) 0 0 3)))) rfl (by decide) ?_
  refine am_Rr.go 7 (σ' := (40, [some (.ref 5), some (.ref 1)], [.int 3, .int 0, .ref 8, .int 0, .ref 4], (am_sA (am_sB x 6 (va_cpy (x.2.2.2 2) (x.2.2.2 6) 0 0 6)) 7 (va_cpy (x.2.2.1 3) (x.2.2.1 7) 0 0 3)))) rfl ?_
  refine am_Rr.chk (σ' := (43, [some (.ref 5), some (.ref 1)], [], (am_sA (am_sA (am_sB x 6 (va_cpy (x.2.2.2 2) (x.2.2.2 6) 0 0 6)) 7 (va_cpy (x.2.2.1 3) (x.2.2.1 7) 0 0 3)) 8 (va_cpy (x.2.2.1 4) (x.2.2.1 8) 0 0 3)))) rfl (by decide) ?_
  refine am_Rr.go 16 (σ' := (75, [some (.ref 5), some (.ref 1)], [], (am_uI (am_uI (am_uI (am_uI (am_sA (am_sA (am_sB x 6 (va_cpy (x.2.2.2 2) (x.2.2.2 6) 0 0 6)) 7 (va_cpy (x.2.2.1 3) (x.2.2.1 7) 0 0 3)) 8 (va_cpy (x.2.2.1 4) (x.2.2.1 8) 0 0 3)) 163 (x.1 35)) 164 (x.1 36)) 165 (x.1 37)) 166 (x.1 38)))) rfl ?_
  refine am_Rr.ret (v := none) (x := (am_uI (am_uI (am_uI (am_uI (am_sA (am_sA (am_sB x 6 (va_cpy (x.2.2.2 2) (x.2.2.2 6) 0 0 6)) 7 (va_cpy (x.2.2.1 3) (x.2.2.1 7) 0 0 3)) 8 (va_cpy (x.2.2.1 4) (x.2.2.1 8) 0 0 3)) 163 (x.1 35)) 164 (x.1 36)) 165 (x.1 37)) 166 (x.1 38))) rfl (by trivial) ?_
  exact ⟨rfl, rfl⟩
def am_bec_1_5 (x : am_X) : am_X := (am_uI (am_uI (am_uI (am_uI (am_sA (am_sA (am_sB x 2 (va_cpy (x.2.2.2 6) (x.2.2.2 2) 0 0 6)) 3 (va_cpy (x.2.2.1 7) (x.2.2.1 3) 0 0 3)) 4 (va_cpy (x.2.2.1 8) (x.2.2.1 4) 0 0 3)) 35 (x.1 163)) 36 (x.1 164)) 37 (x.1 165)) 38 (x.1 166))
theorem S_become_1_5 (d : Nat) (x : am_X) : am_T (d + 2) mX1_become [.ref 1, .ref 5] x (fun r x' => r = none ∧ am_bec_1_5 x = x') := by
  refine am_T.of rfl ?_
  show am_Rr _ kX1_become (0, [some (.ref 1), some (.ref 5)], [], x) _
  refine am_Rr.go 7 (σ' := (12, [some (.ref 1), some (.ref 5)], [.int 6, .int 0, .ref 2, .int 0, .ref 6], x)) rfl ?_
  refine am_Rr.chk (σ' := (15, [some (.ref 1), some (.ref 5)], [], (am_sB x 2 (va_cpy (x.2.2.2 6) (x.2.2.2 2) 0 0 6)))) rfl (by decide) ?_
  refine am_Rr.go 7 (σ' := (26, [some (.ref 1), some (.ref 5)], [.int 3, .int 0, .ref 3, .int 0, .ref 7], (am_sB x 2 (va_cpy (x.2.2.2 6) (x.2.2.2 2) 0 0 6)))) rfl ?_
  refine am_Rr.chk (σ' := (29, [some (.ref 1), some (.ref 5)], [], (am_sA (am_sB x 2 (va_cpy (x.2.2.2 6) (x.2.2.2 2) 0 0 6)) 3 (va_cpy (x.2.2.1 7) (x.2.2.1 3) 0 0 3)))) rfl (by decide) ?_
  refine am_Rr.go 7 (σ' := (40, [some (.ref 1), some (.ref 5)], [.int 3, .int 0, .ref 4, .int 0, .ref 8], (am_sA (am_sB x 2 (va_cpy (x.2.2.2 6) (x.2.2.2 2) 0 0 6)) 3 (va_cpy (x.2.2.1 7) (x.2.2.1 3) 0 0 3)))) rfl ?_
  refine am_Rr.chk (σ' := (43, [some (.ref 1), some (.ref 5)], [], (am_sA (am_sA (am_sB x 2 (va_cpy (x.2.2.2 6) (x.2.2.2 2) 0 0 6)) 3 (va_cpy (x.2.2.1 7) (x.2.2.1 3) 0 0 3)) 4 (va_cpy (x.2.2.1 8) (x.2.2.1 4) 0 0 3)))) rfl (by decide) ?_
  refine am_Rr.go 16 (σ' := (75, [some (.ref 1), some (.ref 5)], [], (am_uI (am_uI (am_uI (am_uI (am_sA (am_sA (am_sB x 2 (va_cpy (x.2.2.2 6) (x.2.2.2 2) 0 0 6)) 3 (va_cpy (x.2.2.1 7) (x.2.2.1 3) 0 0 3)) 4 (va_cpy (x.2.2.1 8) (x.2.2.1 4) 0 0 3)) 35 (x.1 163)) 36 (x.1 164)) 37 (x.1 165)) 38 (x.1 166)))) rfl ?_
  refine am_Rr.ret (v := none) (x := (am_uI (am_uI (am_uI (am_uI (am_sA (am_sA (am_sB x 2 (va_cpy (x.2.2.2 6) (x.2.2.2 2) 0 0 6)) 3 (va_cpy (x.2.2.1 7) (x.2.2.1 3) 0 0 3)) 4 (va_cpy (x.2.2.1 8) (x.2.2.1 4) 0 0 3)) 35 (x.1 163)) 36 (x.1 164)) 37 (x.1 165)) 38 (x.1 166))) rfl (by trivial) ?_
  exact ⟨rfl, rfl⟩
def am_bec_9_1 (x : am_X) : am_X := (am_uI (am_uI (am_uI (am_uI (am_sA (am_sA (am_sB x 10 (va_cpy (x.2.2.2 2) (x.2.2.2 10) 0 0 6)) 11 (va_cpy (x.2.2.1 3) (x.2.2.1 11) 0 0 3)) 12 (va_cpy (x.2.2.1 4) (x.2.2.1 12) 0 0 3)) 291 (x.1 35)) 292 (x.1 36)) 293 (x.1 37)) 294 (x.1 38))
theorem S_become_9_1 (d : Nat) (x : am_X) : am_T (d + 2) mX1_become [.ref 9, .ref 1] x (fun r x' => r = none ∧ am_bec_9_1 x = x') := by
  refine am_T.of rfl ?_
  show am_Rr _ kX1_become (0, [some (.ref 9), some (.ref 1)], [], x) _
  refine am_Rr.go 7 (σ' := (12, [some (.ref 9), some (.ref 1)], [.int 6, .int 0, .ref 10, .int 0, .ref 2], x)) rfl ?_
  refine am_Rr.chk (σ' := (15, [some (.ref 9), some (.ref 1)], [], (am_sB x 10 (va_cpy (x.2.2.2 2) (x.2.2.2 10) 0 0 6)))) rfl (by decide) ?_
  refine am_Rr.go 7 (σ' := (26, [some (.ref 9), some (.ref 1)], [.int 3, .int 0, .ref 11, .int 0, .ref 3], (am_sB x 10 (va_cpy (x.2.2.2 2) (x.2.2.2 10) 0 0 6)))) rfl ?_
  refine am_Rr.chk (σ' := (29, [some (.ref 9), some (.ref 1)], [], (am_sA (am_sB x 10 (va_cpy (x.2.2.2 2) (x.2.2.2 10) 0 0 6)) 11 (va_cpy (x.2.2.1 3) (x.2.2.1 11) 0 0 3)))) rfl (by decide) ?_
  refine am_Rr.go 7 (σ' := (40, [some (.ref 9), some (.ref 1)], [.int 3, .int 0, .ref 12, .int 0, .ref 4], (am_sA (am_sB x 10 (va_cpy (x.2.2.2 2) (x.2.2.2 10) 0 0 6)) 11 (va_cpy (x.2.2.1 3) (x.2.2.1 11) 0 0 3)))) rfl ?_
  refine am_Rr.chk (σ' := (43, [some (.ref 9), some (.ref 1)], [], (am_sA (am_sA (am_sB x 10 (va_cpy (x.2.2.2 2) (x.2.2.2 10) 0 0 6)) 11 (va_cpy (x.2.2.1 3) (x.2.2.1 11) 0 0 3)) 12 (va_cpy (x.2.2.1 4) (x.2.2.1 12) 0 0 3)))) rfl (by decide) ?_
  refine am_Rr.go 16 (σ' := (75, [some (.ref 9), some (.ref 1)], [], (am_uI (am_uI (am_uI (am_uI (am_sA (am_sA (am_sB x 10 (va_cpy (x.2.2.2 2) (x.2.2.2 10) 0 0 6)) 11 (va_cpy (x.2.2.1 3) (x.2.2.1 11) 0 0 3)) 12 (va_cpy (x.2.2.1 4) (x.2.2.1 12) 0 0 3)) 291 (x.1 35)) 292 (x.1 36)) 293 (x.1 37)) 294 (x.1 38)))) rfl ?_
  refine am_Rr.ret (v := none) (x := (am_uI (am_uI (am_uI (am_uI (am_sA (am_sA (am_sB x 10 (va_cpy (x.2.2.2 2) (x.2.2.2 10) 0 0 6)) 11 (va_cpy (x.2.2.1 3) (x.2.2.1 11) 0 0 3)) 12 (va_cpy (x.2.2.1 4) (x.2.2.1 12) 0 0 3)) 291 (x.1 35)) 292 (x.1 36)) 293 (x.1 37)) 294 (x.1 38))) rfl (by trivial) ?_
  exact ⟨rfl, rfl⟩
def am_bec_1_9 (x : am_X) : am_X := (am_uI (am_uI (am_uI (am_uI (am_sA (am_sA (am_sB x 2 (va_cpy (x.2.2.2 10) (x.2.2.2 2) 0 0 6)) 3 (va_cpy (x.2.2.1 11) (x.2.2.1 3) 0 0 3)) 4 (va_cpy (x.2.2.1 12) (x.2.2.1 4) 0 0 3)) 35 (x.1 291)) 36 (x.1 292)) 37 (x.1 293)) 38 (x.1 294))
theorem S_become_1_9 (d : Nat) (x : am_X) : am_T (d + 2) mX1_become [.ref 1, .ref 9] x (fun r x' => r = none ∧ am_bec_1_9 x = x') := by
  refine am_T.of rfl ?_
  show am_Rr _ kX1_become (0, [some (.ref 1), some (.ref 9)], [], x) _
  refine am_Rr.go 7 (σ' := (12, [some (.ref 1), some (.ref 9)], [.int 6, .int 0, .ref 2, .int 0, .ref 10], x)) rfl ?_
  refine am_Rr.chk (σ' := (15, [some (.ref 1), some (.ref 9)], [], (am_sB x 2 (va_cpy (x.2.2.2 10) (x.2.2.2 2) 0 0 6)))) rfl (by decide) ?_
  refine am_Rr.go 7 (σ' := (26, [some (.ref 1), some (.ref 9)], [.int 3, .int 0, .ref 3, .int 0, .ref 11], (am_sB x 2 (va_cpy (x.2.2.2 10) (x.2.2.2 2) 0 0 6)))) rfl ?_
  refine am_Rr.chk (σ' := (29, [some (.ref 1), some (.ref 9)], [], (am_sA (am_sB x 2 (va_cpy (x.2.2.2 10) (x.2.2.2 2) 0 0 6)) 3 (va_cpy (x.2.2.1 11) (x.2.2.1 3) 0 0 3)))) rfl (by decide) ?_
  refine am_Rr.go 7 (σ' := (40, [some (.ref 1), some (.ref 9)], [.int 3, .int 0, .ref 4, .int 0, .ref 12], (am_sA (am_sB x 2 (va_cpy (x.2.2.2 10) (x.2.2.2 2) 0 0 6)) 3 (va_cpy (x.2.2.1 11) (x.2.2.1 3) 0 0 3)))) rfl ?_
  refine am_Rr.chk (σ' := (43, [some (.ref 1), some (.ref 9)], [], (am_sA (am_sA (am_sB x 2 (va_cpy (x.2.2.2 10) (x.2.2.2 2) 0 0 6)) 3 (va_cpy (x.2.2.1 11) (x.2.2.1 3) 0 0 3)) 4 (va_cpy (x.2.2.1 12) (x.2.2.1 4) 0 0 3)))) rfl (by decide) ?_
  refine am_Rr.go 16 (σ' := (75, [some (.ref 1), some (.ref 9)], [], (am_uI (am_uI (am_uI (am_uI (am_sA (am_sA (am_sB x 2 (va_cpy (x.2.2.2 10) (x.2.2.2 2) 0 0 6)) 3 (va_cpy (x.2.2.1 11) (x.2.2.1 3) 0 0 3)) 4 (va_cpy (x.2.2.1 12) (x.2.2.1 4) 0 0 3)) 35 (x.1 291)) 36 (x.1 292)) 37 (x.1 293)) 38 (x.1 294)))) rfl ?_
  refine am_Rr.ret (v := none) (x := (am_uI (am_uI (am_uI (am_uI (am_sA (am_sA (am_sB x 2 (va_cpy (x.2.2.2 10) (x.2.2.2 2) 0 0 6)) 3 (va_cpy (x.2.2.1 11) (x.2.2.1 3) 0 0 3)) 4 (va_cpy (x.2.2.1 12) (x.2.2.1 4) 0 0 3)) 35 (x.1 291)) 36 (x.1 292)) 37 (x.1 293)) 38 (x.1 294))) rfl (by trivial) ?_
  exact ⟨rfl, rfl⟩
theorem S_addSeeker_1 (d : Nat) (k q : Int32) (x : am_X) : am_T (d + 3) mX1_addSeeker [.ref 1, .int k, .int q] x (fun r x' => ((0 ≤ (x.1 35).toInt ∧ (x.1 35).toInt < 3 ∧ am_sq q) ∧ r = some (.int 1) ∧ am_uI (am_sA (am_sA x 3 (upd (x.2.2.1 3) (x.1 35).toNatClampNeg k)) 4 (upd (x.2.2.1 4) (x.1 35).toNatClampNeg q)) 35 ((x.1 35) + 1) = x') ∨ (¬ (0 ≤ (x.1 35).toInt ∧ (x.1 35).toInt < 3 ∧ am_sq q) ∧ r = some (.int 0) ∧ x = x')) := by
  refine am_T.of rfl ?_
  show am_Rr _ kX1_addSeeker (0, [some (.ref 1), some (.int k), some (.int q)], [], x) _
  refine am_Rr.go 3 (σ' := (if (x.1 35) < 0 then 22 else 7, [some (.ref 1), some (.int k), some (.int q)], [], x)) rfl ?_
  refine am_Rr.ite (fun h_1 => ?_) (fun h_1 => ?_)
  · refine am_Rr.go 1 (σ' := (23, [some (.ref 1), some (.int k), some (.int q)], [.int 0], x)) rfl ?_
    refine am_Rr.ret (v := some (.int 0)) (x := x) rfl (by first | exact Or.inl rfl | exact Or.inr rfl | assumption) ?_
    first | exact Or.inl ⟨⟨by simp only [Int32.lt_iff_toInt_lt, Int32.le_iff_toInt_le, ← Int32.toInt_inj, am_nm9, am_nm6, am_nm4, am_nm3, am_nm2, am_nm1, am_n0, am_n1, am_n2, am_n3, am_n4, am_n5, am_n6, am_n7, am_n8, am_n9, am_n10, am_n11, am_n12, am_n20, am_n35, am_n36, am_n60, am_n96, am_n99, am_n255, am_n999] at *; omega, by simp only [Int32.lt_iff_toInt_lt, Int32.le_iff_toInt_le, ← Int32.toInt_inj, am_nm9, am_nm6, am_nm4, am_nm3, am_nm2, am_nm1, am_n0, am_n1, am_n2, am_n3, am_n4, am_n5, am_n6, am_n7, am_n8, am_n9, am_n10, am_n11, am_n12, am_n20, am_n35, am_n36, am_n60, am_n96, am_n99, am_n255, am_n999] at *; omega, by assumption⟩, rfl, rfl⟩ | exact Or.inr ⟨fun z => absurd z.2.2 (by assumption), rfl, rfl⟩ | exact Or.inr ⟨by rintro ⟨z1, z2, z3⟩; simp only [Int32.lt_iff_toInt_lt, Int32.le_iff_toInt_le, ← Int32.toInt_inj, am_nm9, am_nm6, am_nm4, am_nm3, am_nm2, am_nm1, am_n0, am_n1, am_n2, am_n3, am_n4, am_n5, am_n6, am_n7, am_n8, am_n9, am_n10, am_n11, am_n12, am_n20, am_n35, am_n36, am_n60, am_n96, am_n99, am_n255, am_n999] at *; omega, rfl, rfl⟩
  · refine am_Rr.go 4 (σ' := (if (3 : Int32) ≤ (x.1 35) then 22 else 15, [some (.ref 1), some (.int k), some (.int q)], [], x)) rfl ?_
    refine am_Rr.ite (fun h_2 => ?_) (fun h_2 => ?_)
    · refine am_Rr.go 1 (σ' := (23, [some (.ref 1), some (.int k), some (.int q)], [.int 0], x)) rfl ?_
      refine am_Rr.ret (v := some (.int 0)) (x := x) rfl (by first | exact Or.inl rfl | exact Or.inr rfl | assumption) ?_
      first | exact Or.inl ⟨⟨by simp only [Int32.lt_iff_toInt_lt, Int32.le_iff_toInt_le, ← Int32.toInt_inj, am_nm9, am_nm6, am_nm4, am_nm3, am_nm2, am_nm1, am_n0, am_n1, am_n2, am_n3, am_n4, am_n5, am_n6, am_n7, am_n8, am_n9, am_n10, am_n11, am_n12, am_n20, am_n35, am_n36, am_n60, am_n96, am_n99, am_n255, am_n999] at *; omega, by simp only [Int32.lt_iff_toInt_lt, Int32.le_iff_toInt_le, ← Int32.toInt_inj, am_nm9, am_nm6, am_nm4, am_nm3, am_nm2, am_nm1, am_n0, am_n1, am_n2, am_n3, am_n4, am_n5, am_n6, am_n7, am_n8, am_n9, am_n10, am_n11, am_n12, am_n20, am_n35, am_n36, am_n60, am_n96, am_n99, am_n255, am_n999] at *; omega, by assumption⟩, rfl, rfl⟩ | exact Or.inr ⟨fun z => absurd z.2.2 (by assumption), rfl, rfl⟩ | exact Or.inr ⟨by rintro ⟨z1, z2, z3⟩; simp only [Int32.lt_iff_toInt_lt, Int32.le_iff_toInt_le, ← Int32.toInt_inj, am_nm9, am_nm6, am_nm4, am_nm3, am_nm2, am_nm1, am_n0, am_n1, am_n2, am_n3, am_n4, am_n5, am_n6, am_n7, am_n8, am_n9, am_n10, am_n11, am_n12, am_n20, am_n35, am_n36, am_n60, am_n96, am_n99, am_n255, am_n999] at *; omega, rfl, rfl⟩
    · refine am_Rr.go 1 (σ' := (16, [some (.ref 1), some (.int k), some (.int q)], [.int q], x)) rfl ?_
      refine am_Rr.call (pc := 19) (ls := [some (.ref 1), some (.int k), some (.int q)]) (st := []) rfl (S_isSquare d q x) ?_
      rintro _ _ ⟨rfl, (⟨rfl, b_3⟩ | ⟨rfl, b_3⟩)⟩
      · show am_Rr _ _ (19, [some (.ref 1), some (.int k), some (.int q)], [.int 1], x) _
        refine am_Rr.go 6 (σ' := (33, [some (.ref 1), some (.int k), some (.int q)], [.int k, .int (x.1 35), .ref 3], x)) rfl ?_
        refine am_Rr.chk (σ' := (34, [some (.ref 1), some (.int k), some (.int q)], [], (am_sA x 3 (upd (x.2.2.1 3) ((x.1 35).toNatClampNeg) k)))) rfl (by rw [vp_in_iff]; simp only [Int32.lt_iff_toInt_lt, Int32.le_iff_toInt_le, ← Int32.toInt_inj, am_nm9, am_nm6, am_nm4, am_nm3, am_nm2, am_nm1, am_n0, am_n1, am_n2, am_n3, am_n4, am_n5, am_n6, am_n7, am_n8, am_n9, am_n10, am_n11, am_n12, am_n20, am_n35, am_n36, am_n60, am_n96, am_n99, am_n255, am_n999] at *; omega) ?_
        refine am_Rr.go 5 (σ' := (43, [some (.ref 1), some (.int k), some (.int q)], [.int q, .int (x.1 35), .ref 4], (am_sA x 3 (upd (x.2.2.1 3) ((x.1 35).toNatClampNeg) k)))) rfl ?_
        refine am_Rr.chk (σ' := (44, [some (.ref 1), some (.int k), some (.int q)], [], (am_sA (am_sA x 3 (upd (x.2.2.1 3) ((x.1 35).toNatClampNeg) k)) 4 (upd (x.2.2.1 4) ((x.1 35).toNatClampNeg) q)))) rfl (by rw [vp_in_iff]; simp only [Int32.lt_iff_toInt_lt, Int32.le_iff_toInt_le, ← Int32.toInt_inj, am_nm9, am_nm6, am_nm4, am_nm3, am_nm2, am_nm1, am_n0, am_n1, am_n2, am_n3, am_n4, am_n5, am_n6, am_n7, am_n8, am_n9, am_n10, am_n11, am_n12, am_n20, am_n35, am_n36, am_n60, am_n96, am_n99, am_n255, am_n999] at *; omega) ?_
        refine am_Rr.go 7 (σ' := (55, [some (.ref 1), some (.int k), some (.int q)], [.int 1], (am_uI (am_sA (am_sA x 3 (upd (x.2.2.1 3) ((x.1 35).toNatClampNeg) k)) 4 (upd (x.2.2.1 4) ((x.1 35).toNatClampNeg) q)) 35 ((x.1 35) + 1)))) rfl ?_
        refine am_Rr.ret (v := some (.int 1)) (x := (am_uI (am_sA (am_sA x 3 (upd (x.2.2.1 3) ((x.1 35).toNatClampNeg) k)) 4 (upd (x.2.2.1 4) ((x.1 35).toNatClampNeg) q)) 35 ((x.1 35) + 1))) rfl (by first | exact Or.inl rfl | exact Or.inr rfl | assumption) ?_
        first | exact Or.inl ⟨⟨by simp only [Int32.lt_iff_toInt_lt, Int32.le_iff_toInt_le, ← Int32.toInt_inj, am_nm9, am_nm6, am_nm4, am_nm3, am_nm2, am_nm1, am_n0, am_n1, am_n2, am_n3, am_n4, am_n5, am_n6, am_n7, am_n8, am_n9, am_n10, am_n11, am_n12, am_n20, am_n35, am_n36, am_n60, am_n96, am_n99, am_n255, am_n999] at *; omega, by simp only [Int32.lt_iff_toInt_lt, Int32.le_iff_toInt_le, ← Int32.toInt_inj, am_nm9, am_nm6, am_nm4, am_nm3, am_nm2, am_nm1, am_n0, am_n1, am_n2, am_n3, am_n4, am_n5, am_n6, am_n7, am_n8, am_n9, am_n10, am_n11, am_n12, am_n20, am_n35, am_n36, am_n60, am_n96, am_n99, am_n255, am_n999] at *; omega, by assumption⟩, rfl, rfl⟩ | exact Or.inr ⟨fun z => absurd z.2.2 (by assumption), rfl, rfl⟩ | exact Or.inr ⟨by rintro ⟨z1, z2, z3⟩; simp only [Int32.lt_iff_toInt_lt, Int32.le_iff_toInt_le, ← Int32.toInt_inj, am_nm9, am_nm6, am_nm4, am_nm3, am_nm2, am_nm1, am_n0, am_n1, am_n2, am_n3, am_n4, am_n5, am_n6, am_n7, am_n8, am_n9, am_n10, am_n11, am_n12, am_n20, am_n35, am_n36, am_n60, am_n96, am_n99, am_n255, am_n999] at *; omega, rfl, rfl⟩
      · show am_Rr _ _ (19, [some (.ref 1), some (.int k), some (.int q)], [.int 0], x) _
        refine am_Rr.go 2 (σ' := (23, [some (.ref 1), some (.int k), some (.int q)], [.int 0], x)) rfl ?_
        refine am_Rr.ret (v := some (.int 0)) (x := x) rfl (by first | exact Or.inl rfl | exact Or.inr rfl | assumption) ?_
        first | exact Or.inl ⟨⟨by simp only [Int32.lt_iff_toInt_lt, Int32.le_iff_toInt_le, ← Int32.toInt_inj, am_nm9, am_nm6, am_nm4, am_nm3, am_nm2, am_nm1, am_n0, am_n1, am_n2, am_n3, am_n4, am_n5, am_n6, am_n7, am_n8, am_n9, am_n10, am_n11, am_n12, am_n20, am_n35, am_n36, am_n60, am_n96, am_n99, am_n255, am_n999] at *; omega, by simp only [Int32.lt_iff_toInt_lt, Int32.le_iff_toInt_le, ← Int32.toInt_inj, am_nm9, am_nm6, am_nm4, am_nm3, am_nm2, am_nm1, am_n0, am_n1, am_n2, am_n3, am_n4, am_n5, am_n6, am_n7, am_n8, am_n9, am_n10, am_n11, am_n12, am_n20, am_n35, am_n36, am_n60, am_n96, am_n99, am_n255, am_n999] at *; omega, by assumption⟩, rfl, rfl⟩ | exact Or.inr ⟨fun z => absurd z.2.2 (by assumption), rfl, rfl⟩ | exact Or.inr ⟨by rintro ⟨z1, z2, z3⟩; simp only [Int32.lt_iff_toInt_lt, Int32.le_iff_toInt_le, ← Int32.toInt_inj, am_nm9, am_nm6, am_nm4, am_nm3, am_nm2, am_nm1, am_n0, am_n1, am_n2, am_n3, am_n4, am_n5, am_n6, am_n7, am_n8, am_n9, am_n10, am_n11, am_n12, am_n20, am_n35, am_n36, am_n60, am_n96, am_n99, am_n255, am_n999] at *; omega, rfl, rfl⟩
theorem S_addSeeker_5 (d : Nat) (k q : Int32) (x : am_X) : am_T (d + 3) mX1_addSeeker [.ref 5, .int k, .int q] x (fun r x' => ((0 ≤ (x.1 163).toInt ∧ (x.1 163).toInt < 3 ∧ am_sq q) ∧ r = some (.int 1) ∧ am_uI (am_sA (am_sA x 7 (upd (x.2.2.1 7) (x.1 163).toNatClampNeg k)) 8 (upd (x.2.2.1 8) (x.1 163).toNatClampNeg q)) 163 ((x.1 163) + 1) = x') ∨ (¬ (0 ≤ (x.1 163).toInt ∧ (x.1 163).toInt < 3 ∧ am_sq q) ∧ r = some (.int 0) ∧ x = x')) := by
  refine am_T.of rfl ?_
  show am_Rr _ kX1_addSeeker (0, [some (.ref 5), some (.int k), some (.int q)], [], x) _
  refine am_Rr.go 3 (σ' := (if (x.1 163) < 0 then 22 else 7, [some (.ref 5), some (.int k), some (.int q)], [], x)) rfl ?_
  refine am_Rr.ite (fun h_1 => ?_) (fun h_1 => ?_)
  · refine am_Rr.go 1 (σ' := (23, [some (.ref 5), some (.int k), some (.int q)], [.int 0], x)) rfl ?_
    refine am_Rr.ret (v := some (.int 0)) (x := x) rfl (by first | exact Or.inl rfl | exact Or.inr rfl | assumption) ?_
    first | exact Or.inl ⟨⟨by simp only [Int32.lt_iff_toInt_lt, Int32.le_iff_toInt_le, ← Int32.toInt_inj, am_nm9, am_nm6, am_nm4, am_nm3, am_nm2, am_nm1, am_n0, am_n1, am_n2, am_n3, am_n4, am_n5, am_n6, am_n7, am_n8, am_n9, am_n10, am_n11, am_n12, am_n20, am_n35, am_n36, am_n60, am_n96, am_n99, am_n255, am_n999] at *; omega, by simp only [Int32.lt_iff_toInt_lt, Int32.le_iff_toInt_le, ← Int32.toInt_inj, am_nm9, am_nm6, am_nm4, am_nm3, am_nm2, am_nm1, am_n0, am_n1, am_n2, am_n3, am_n4, am_n5, am_n6, am_n7, am_n8, am_n9, am_n10, am_n11, am_n12, am_n20, am_n35, am_n36, am_n60, am_n96, am_n99, am_n255, am_n999] at *; omega, by assumption⟩, rfl, rfl⟩ | exact Or.inr ⟨fun z => absurd z.2.2 (by assumption), rfl, rfl⟩ | exact Or.inr ⟨by rintro ⟨z1, z2, z3⟩; simp only [Int32.lt_iff_toInt_lt, Int32.le_iff_toInt_le, ← Int32.toInt_inj, am_nm9, am_nm6, am_nm4, am_nm3, am_nm2, am_nm1, am_n0, am_n1, am_n2, am_n3, am_n4, am_n5, am_n6, am_n7, am_n8, am_n9, am_n10, am_n11, am_n12, am_n20, am_n35, am_n36, am_n60, am_n96, am_n99, am_n255, am_n999] at *; omega, rfl, rfl⟩
  · refine am_Rr.go 4 (σ' := (if (3 : Int32) ≤ (x.1 163) then 22 else 15, [some (.ref 5), some (.int k), some (.int q)], [], x)) rfl ?_
    refine am_Rr.ite (fun h_2 => ?_) (fun h_2 => ?_)
    · refine am_Rr.go 1 (σ' := (23, [some (.ref 5), some (.int k), some (.int q)], [.int 0], x)) rfl ?_
      refine am_Rr.ret (v := some (.int 0)) (x := x) rfl (by first | exact Or.inl rfl | exact Or.inr rfl | assumption) ?_
      first | exact Or.inl ⟨⟨by simp only [Int32.lt_iff_toInt_lt, Int32.le_iff_toInt_le, ← Int32.toInt_inj, am_nm9, am_nm6, am_nm4, am_nm3, am_nm2, am_nm1, am_n0, am_n1, am_n2, am_n3, am_n4, am_n5, am_n6, am_n7, am_n8, am_n9, am_n10, am_n11, am_n12, am_n20, am_n35, am_n36, am_n60, am_n96, am_n99, am_n255, am_n999] at *; omega, by simp only [Int32.lt_iff_toInt_lt, Int32.le_iff_toInt_le, ← Int32.toInt_inj, am_nm9, am_nm6, am_nm4, am_nm3, am_nm2, am_nm1, am_n0, am_n1, am_n2, am_n3, am_n4, am_n5, am_n6, am_n7, am_n8, am_n9, am_n10, am_n11, am_n12, am_n20, am_n35, am_n36, am_n60, am_n96, am_n99, am_n255, am_n999] at *; omega, by assumption⟩, rfl, rfl⟩ | exact Or.inr ⟨fun z => absurd z.2.2 (by assumption), rfl, rfl⟩ | exact Or.inr ⟨by rintro ⟨z1, z2, z3⟩; simp only [Int32.lt_iff_toInt_lt, Int32.le_iff_toInt_le, ← Int32.toInt_inj, am_nm9, am_nm6, am_nm4, am_nm3, am_nm2, am_nm1, am_n0, am_n1, am_n2, am_n3, am_n4, am_n5, am_n6, am_n7, am_n8, am_n9, am_n10, am_n11, am_n12, am_n20, am_n35, am_n36, am_n60, am_n96, am_n99, am_n255, am_n999] at *; omega, rfl, rfl⟩
    · refine am_Rr.go 1 (σ' := (16, [some (.ref 5), some (.int k), some (.int q)], [.int q], x)) rfl ?_
      refine am_Rr.call (pc := 19) (ls := [some (.ref 5), some (.int k), some (.int q)]) (st := []) rfl (S_isSquare d q x) ?_
      rintro _ _ ⟨rfl, (⟨rfl, b_3⟩ | ⟨rfl, b_3⟩)⟩
      · show am_Rr _ _ (19, [some (.ref 5), some (.int k), some (.int q)], [.int 1], x) _
        refine am_Rr.go 6 (σ' := (33, [some (.ref 5), some (.int k), some (.int q)], [.int k, .int (x.1 163), .ref 7], x)) rfl ?_
        refine am_Rr.chk (σ' := (34, [some (.ref 5), some (.int k), some (.int q)], [], (am_sA x 7 (upd (x.2.2.1 7) ((x.1 163).toNatClampNeg) k)))) rfl (by rw [vp_in_iff]; simp only [Int32.lt_iff_toInt_lt, Int32.le_iff_toInt_le, ← Int32.toInt_inj, am_nm9, am_nm6, am_nm4, am_nm3, am_nm2, am_nm1, am_n0, am_n1, am_n2, am_n3, am_n4, am_n5, am_n6, am_n7, am_n8, am_n9, am_n10, am_n11, am_n12, am_n20, am_n35, am_n36, am_n60, am_n96, am_n99, am_n255, am_n999] at *; omega) ?_
        refine am_Rr.go 5 (σ' := (43, [some (.ref 5), some (.int k), some (.int q)], [.int q, .int (x.1 163), .ref 8], (am_sA x 7 (upd (x.2.2.1 7) ((x.1 163).toNatClampNeg) k)))) rfl ?_
        refine am_Rr.chk (σ' := (44, [some (.ref 5), some (.int k), some (.int q)], [], (am_sA (am_sA x 7 (upd (x.2.2.1 7) ((x.1 163).toNatClampNeg) k)) 8 (upd (x.2.2.1 8) ((x.1 163).toNatClampNeg) q)))) rfl (by rw [vp_in_iff]; simp only [Int32.lt_iff_toInt_lt, Int32.le_iff_toInt_le, ← Int32.toInt_inj, am_nm9, am_nm6, am_nm4, am_nm3, am_nm2, am_nm1, am_n0, am_n1, am_n2, am_n3, am_n4, am_n5, am_n6, am_n7, am_n8, am_n9, am_n10, am_n11, am_n12, am_n20, am_n35, am_n36, am_n60, am_n96, am_n99, am_n255, am_n999] at *; omega) ?_
        refine am_Rr.go 7 (σ' := (55, [some (.ref 5), some (.int k), some (.int q)], [.int 1], (am_uI (am_sA (am_sA x 7 (upd (x.2.2.1 7) ((x.1 163).toNatClampNeg) k)) 8 (upd (x.2.2.1 8) ((x.1 163).toNatClampNeg) q)) 163 ((x.1 163) + 1)))) rfl ?_
        refine am_Rr.ret (v := some (.int 1)) (x := (am_uI (am_sA (am_sA x 7 (upd (x.2.2.1 7) ((x.1 163).toNatClampNeg) k)) 8 (upd (x.2.2.1 8) ((x.1 163).toNatClampNeg) q)) 163 ((x.1 163) + 1))) rfl (by first | exact Or.inl rfl | exact Or.inr rfl | assumption) ?_
        first | exact Or.inl ⟨⟨by simp only [Int32.lt_iff_toInt_lt, Int32.le_iff_toInt_le, ← Int32.toInt_inj, am_nm9, am_nm6, am_nm4, am_nm3, am_nm2, am_nm1, am_n0, am_n1, am_n2, am_n3, am_n4, am_n5, am_n6, am_n7, am_n8, am_n9, am_n10, am_n11, am_n12, am_n20, am_n35, am_n36, am_n60, am_n96, am_n99, am_n255, am_n999] at *; omega, by simp only [Int32.lt_iff_toInt_lt, Int32.le_iff_toInt_le, ← Int32.toInt_inj, am_nm9, am_nm6, am_nm4, am_nm3, am_nm2, am_nm1, am_n0, am_n1, am_n2, am_n3, am_n4, am_n5, am_n6, am_n7, am_n8, am_n9, am_n10, am_n11, am_n12, am_n20, am_n35, am_n36, am_n60, am_n96, am_n99, am_n255, am_n999] at *; omega, by assumption⟩, rfl, rfl⟩ | exact Or.inr ⟨fun z => absurd z.2.2 (by assumption), rfl, rfl⟩ | exact Or.inr ⟨by rintro ⟨z1, z2, z3⟩; simp only [Int32.lt_iff_toInt_lt, Int32.le_iff_toInt_le, ← Int32.toInt_inj, am_nm9, am_nm6, am_nm4, am_nm3, am_nm2, am_nm1, am_n0, am_n1, am_n2, am_n3, am_n4, am_n5, am_n6, am_n7, am_n8, am_n9, am_n10, am_n11, am_n12, am_n20, am_n35, am_n36, am_n60, am_n96, am_n99, am_n255, am_n999] at *; omega, rfl, rfl⟩
      · show am_Rr _ _ (19, [some (.ref 5), some (.int k), some (.int q)], [.int 0], x) _
        refine am_Rr.go 2 (σ' := (23, [some (.ref 5), some (.int k), some (.int q)], [.int 0], x)) rfl ?_
        refine am_Rr.ret (v := some (.int 0)) (x := x) rfl (by first | exact Or.inl rfl | exact Or.inr rfl | assumption) ?_
        first | exact Or.inl ⟨⟨by simp only [Int32.lt_iff_toInt_lt, Int32.le_iff_toInt_le, ← Int32.toInt_inj, am_nm9, am_nm6, am_nm4, am_nm3, am_nm2, am_nm1, am_n0, am_n1, am_n2, am_n3, am_n4, am_n5, am_n6, am_n7, am_n8, am_n9, am_n10, am_n11, am_n12, am_n20, am_n35, am_n36, am_n60, am_n96, am_n99, am_n255, am_n999] at *; omega, by simp only [Int32.lt_iff_toInt_lt, Int32.le_iff_toInt_le, ← Int32.toInt_inj, am_nm9, am_nm6, am_nm4, am_nm3, am_nm2, am_nm1, am_n0, am_n1, am_n2, am_n3, am_n4, am_n5, am_n6, am_n7, am_n8, am_n9, am_n10, am_n11, am_n12, am_n20, am_n35, am_n36, am_n60, am_n96, am_n99, am_n255, am_n999] at *; omega, by assumption⟩, rfl, rfl⟩ | exact Or.inr ⟨fun z => absurd z.2.2 (by assumption), rfl, rfl⟩ | exact Or.inr ⟨by rintro ⟨z1, z2, z3⟩; simp only [Int32.lt_iff_toInt_lt, Int32.le_iff_toInt_le, ← Int32.toInt_inj, am_nm9, am_nm6, am_nm4, am_nm3, am_nm2, am_nm1, am_n0, am_n1, am_n2, am_n3, am_n4, am_n5, am_n6, am_n7, am_n8, am_n9, am_n10, am_n11, am_n12, am_n20, am_n35, am_n36, am_n60, am_n96, am_n99, am_n255, am_n999] at *; omega, rfl, rfl⟩
theorem S_isFull_14 (d : Nat) (x : am_X) : am_T (d + 2) mX4_isFull [.ref 14] x (fun ro x' => x = x' ∧ ((ro = some (.int 1) ∧ (96 ≤ (x.1 449).toInt)) ∨ (ro = some (.int 0) ∧ ¬ (96 ≤ (x.1 449).toInt)))) := by
  refine am_T.of rfl ?_
  show am_Rr _ kX4_isFull (0, [some (.ref 14)], [], x) _
  refine am_Rr.go 6 (σ' := (if (x.1 449) < 96 then 16 else 12, [some (.ref 14)], [], x)) rfl ?_
  refine am_Rr.ite (fun h_1 => ?_) (fun h_1 => ?_)
  · refine am_Rr.go 1 (σ' := (17, [some (.ref 14)], [.int 0], x)) rfl ?_
    refine am_Rr.ret (v := some (.int 0)) (x := x) rfl (by first | exact Or.inl rfl | exact Or.inr rfl | assumption) ?_
    exact ⟨rfl, Or.inr ⟨rfl, by simp only [Int32.lt_iff_toInt_lt, Int32.le_iff_toInt_le, ← Int32.toInt_inj, am_nm9, am_nm6, am_nm4, am_nm3, am_nm2, am_nm1, am_n0, am_n1, am_n2, am_n3, am_n4, am_n5, am_n6, am_n7, am_n8, am_n9, am_n10, am_n11, am_n12, am_n20, am_n35, am_n36, am_n60, am_n96, am_n99, am_n255, am_n999] at *; omega⟩⟩
  · refine am_Rr.go 2 (σ' := (17, [some (.ref 14)], [.int 1], x)) rfl ?_
    refine am_Rr.ret (v := some (.int 1)) (x := x) rfl (by first | exact Or.inl rfl | exact Or.inr rfl | assumption) ?_
    exact ⟨rfl, Or.inl ⟨rfl, by simp only [Int32.lt_iff_toInt_lt, Int32.le_iff_toInt_le, ← Int32.toInt_inj, am_nm9, am_nm6, am_nm4, am_nm3, am_nm2, am_nm1, am_n0, am_n1, am_n2, am_n3, am_n4, am_n5, am_n6, am_n7, am_n8, am_n9, am_n10, am_n11, am_n12, am_n20, am_n35, am_n36, am_n60, am_n96, am_n99, am_n255, am_n999] at *; omega⟩⟩
theorem S_add_14 (d : Nat) (v : Int32) (x : am_X) : am_T (d + 2) mX4_add [.ref 14, .int v] x (fun r x' => ((0 ≤ (x.1 449).toInt ∧ (x.1 449).toInt < 96) ∧ r = some (.int ((x.1 449) + 1)) ∧ am_uI (am_sA x 15 (upd (x.2.2.1 15) (x.1 449).toNatClampNeg v)) 449 ((x.1 449) + 1) = x') ∨ (¬ (0 ≤ (x.1 449).toInt ∧ (x.1 449).toInt < 96) ∧ r = some (.int (x.1 449)) ∧ x = x')) := by
  refine am_T.of rfl ?_
  show am_Rr _ kX4_add (0, [some (.ref 14), some (.int v)], [], x) _
  refine am_Rr.go 3 (σ' := (if (x.1 449) < 0 then 39 else 7, [some (.ref 14), some (.int v)], [], x)) rfl ?_
  refine am_Rr.ite (fun h_1 => ?_) (fun h_1 => ?_)
  · refine am_Rr.go 2 (σ' := (43, [some (.ref 14), some (.int v)], [.int (x.1 449)], x)) rfl ?_
    refine am_Rr.ret (v := some (.int (x.1 449))) (x := x) rfl (by trivial) ?_
    first | exact Or.inl ⟨by simp only [Int32.lt_iff_toInt_lt, Int32.le_iff_toInt_le, ← Int32.toInt_inj, am_nm9, am_nm6, am_nm4, am_nm3, am_nm2, am_nm1, am_n0, am_n1, am_n2, am_n3, am_n4, am_n5, am_n6, am_n7, am_n8, am_n9, am_n10, am_n11, am_n12, am_n20, am_n35, am_n36, am_n60, am_n96, am_n99, am_n255, am_n999] at *; omega, rfl, rfl⟩ | exact Or.inr ⟨by simp only [Int32.lt_iff_toInt_lt, Int32.le_iff_toInt_le, ← Int32.toInt_inj, am_nm9, am_nm6, am_nm4, am_nm3, am_nm2, am_nm1, am_n0, am_n1, am_n2, am_n3, am_n4, am_n5, am_n6, am_n7, am_n8, am_n9, am_n10, am_n11, am_n12, am_n20, am_n35, am_n36, am_n60, am_n96, am_n99, am_n255, am_n999] at *; omega, rfl, rfl⟩
  · refine am_Rr.go 6 (σ' := (if (96 : Int32) ≤ (x.1 449) then 39 else 19, [some (.ref 14), some (.int v)], [], x)) rfl ?_
    refine am_Rr.ite (fun h_2 => ?_) (fun h_2 => ?_)
    · refine am_Rr.go 2 (σ' := (43, [some (.ref 14), some (.int v)], [.int (x.1 449)], x)) rfl ?_
      refine am_Rr.ret (v := some (.int (x.1 449))) (x := x) rfl (by trivial) ?_
      first | exact Or.inl ⟨by simp only [Int32.lt_iff_toInt_lt, Int32.le_iff_toInt_le, ← Int32.toInt_inj, am_nm9, am_nm6, am_nm4, am_nm3, am_nm2, am_nm1, am_n0, am_n1, am_n2, am_n3, am_n4, am_n5, am_n6, am_n7, am_n8, am_n9, am_n10, am_n11, am_n12, am_n20, am_n35, am_n36, am_n60, am_n96, am_n99, am_n255, am_n999] at *; omega, rfl, rfl⟩ | exact Or.inr ⟨by simp only [Int32.lt_iff_toInt_lt, Int32.le_iff_toInt_le, ← Int32.toInt_inj, am_nm9, am_nm6, am_nm4, am_nm3, am_nm2, am_nm1, am_n0, am_n1, am_n2, am_n3, am_n4, am_n5, am_n6, am_n7, am_n8, am_n9, am_n10, am_n11, am_n12, am_n20, am_n35, am_n36, am_n60, am_n96, am_n99, am_n255, am_n999] at *; omega, rfl, rfl⟩
    · refine am_Rr.go 5 (σ' := (28, [some (.ref 14), some (.int v)], [.int v, .int (x.1 449), .ref 15], x)) rfl ?_
      refine am_Rr.chk (σ' := (29, [some (.ref 14), some (.int v)], [], (am_sA x 15 (upd (x.2.2.1 15) ((x.1 449).toNatClampNeg) v)))) rfl (by rw [vp_in_iff]; simp only [Int32.lt_iff_toInt_lt, Int32.le_iff_toInt_le, ← Int32.toInt_inj, am_nm9, am_nm6, am_nm4, am_nm3, am_nm2, am_nm1, am_n0, am_n1, am_n2, am_n3, am_n4, am_n5, am_n6, am_n7, am_n8, am_n9, am_n10, am_n11, am_n12, am_n20, am_n35, am_n36, am_n60, am_n96, am_n99, am_n255, am_n999] at *; omega) ?_
      refine am_Rr.go 8 (σ' := (43, [some (.ref 14), some (.int v)], [.int ((x.1 449) + 1)], (am_uI (am_sA x 15 (upd (x.2.2.1 15) ((x.1 449).toNatClampNeg) v)) 449 ((x.1 449) + 1)))) rfl ?_
      refine am_Rr.ret (v := some (.int ((x.1 449) + 1))) (x := (am_uI (am_sA x 15 (upd (x.2.2.1 15) ((x.1 449).toNatClampNeg) v)) 449 ((x.1 449) + 1))) rfl (by trivial) ?_
      first | exact Or.inl ⟨by simp only [Int32.lt_iff_toInt_lt, Int32.le_iff_toInt_le, ← Int32.toInt_inj, am_nm9, am_nm6, am_nm4, am_nm3, am_nm2, am_nm1, am_n0, am_n1, am_n2, am_n3, am_n4, am_n5, am_n6, am_n7, am_n8, am_n9, am_n10, am_n11, am_n12, am_n20, am_n35, am_n36, am_n60, am_n96, am_n99, am_n255, am_n999] at *; omega, rfl, rfl⟩ | exact Or.inr ⟨by simp only [Int32.lt_iff_toInt_lt, Int32.le_iff_toInt_le, ← Int32.toInt_inj, am_nm9, am_nm6, am_nm4, am_nm3, am_nm2, am_nm1, am_n0, am_n1, am_n2, am_n3, am_n4, am_n5, am_n6, am_n7, am_n8, am_n9, am_n10, am_n11, am_n12, am_n20, am_n35, am_n36, am_n60, am_n96, am_n99, am_n255, am_n999] at *; omega, rfl, rfl⟩
theorem S_clear_14 (d : Nat) (x : am_X) : am_T (d + 2) mX4_clear [.ref 14] x (fun r x' => r = none ∧ am_uI x 449 0 = x') := by
  refine am_T.of rfl ?_
  show am_Rr _ kX4_clear (0, [some (.ref 14)], [], x) _
  refine am_Rr.go 3 (σ' := (5, [some (.ref 14)], [], (am_uI x 449 0))) rfl ?_
  refine am_Rr.ret (v := none) (x := (am_uI x 449 0)) rfl (by trivial) ?_
  exact ⟨rfl, rfl⟩
def am_nat14 (n : Int32) (f : Nat → Int32) (i : Int32) : Int32 := if 0 ≤ i.toInt ∧ i.toInt < n.toInt ∧ i.toInt < 96 then f i.toNatClampNeg else (-9)
theorem S_at_14 (d : Nat) (i : Int32) (x : am_X) : am_T (d + 2) mX4_at [.ref 14, .int i] x (fun ro x' => x = x' ∧ ro = some (.int (am_nat14 (x.1 449) (x.2.2.1 15) i))) := by
  refine am_T.of rfl ?_
  show am_Rr _ kX4_at (0, [some (.ref 14), some (.int i)], [], x) _
  refine am_Rr.go 2 (σ' := (if i < 0 then 30 else 4, [some (.ref 14), some (.int i)], [], x)) rfl ?_
  refine am_Rr.ite (fun h_1 => ?_) (fun h_1 => ?_)
  · refine am_Rr.go 1 (σ' := (32, [some (.ref 14), some (.int i)], [.int (-9)], x)) rfl ?_
    refine am_Rr.ret (v := some (.int (-9))) (x := x) rfl (by trivial) ?_
    exact ⟨rfl, by unfold am_nat14; first | (rw [if_pos (by simp only [Int32.lt_iff_toInt_lt, Int32.le_iff_toInt_le, ← Int32.toInt_inj, am_nm9, am_nm6, am_nm4, am_nm3, am_nm2, am_nm1, am_n0, am_n1, am_n2, am_n3, am_n4, am_n5, am_n6, am_n7, am_n8, am_n9, am_n10, am_n11, am_n12, am_n20, am_n35, am_n36, am_n60, am_n96, am_n99, am_n255, am_n999] at *; omega)]) | (rw [if_neg (by simp only [Int32.lt_iff_toInt_lt, Int32.le_iff_toInt_le, ← Int32.toInt_inj, am_nm9, am_nm6, am_nm4, am_nm3, am_nm2, am_nm1, am_n0, am_n1, am_n2, am_n3, am_n4, am_n5, am_n6, am_n7, am_n8, am_n9, am_n10, am_n11, am_n12, am_n20, am_n35, am_n36, am_n60, am_n96, am_n99, am_n255, am_n999] at *; omega)])⟩
  · refine am_Rr.go 4 (σ' := (if (x.1 449) ≤ i then 30 else 12, [some (.ref 14), some (.int i)], [], x)) rfl ?_
    refine am_Rr.ite (fun h_2 => ?_) (fun h_2 => ?_)
    · refine am_Rr.go 1 (σ' := (32, [some (.ref 14), some (.int i)], [.int (-9)], x)) rfl ?_
      refine am_Rr.ret (v := some (.int (-9))) (x := x) rfl (by trivial) ?_
      exact ⟨rfl, by unfold am_nat14; first | (rw [if_pos (by simp only [Int32.lt_iff_toInt_lt, Int32.le_iff_toInt_le, ← Int32.toInt_inj, am_nm9, am_nm6, am_nm4, am_nm3, am_nm2, am_nm1, am_n0, am_n1, am_n2, am_n3, am_n4, am_n5, am_n6, am_n7, am_n8, am_n9, am_n10, am_n11, am_n12, am_n20, am_n35, am_n36, am_n60, am_n96, am_n99, am_n255, am_n999] at *; omega)]) | (rw [if_neg (by simp only [Int32.lt_iff_toInt_lt, Int32.le_iff_toInt_le, ← Int32.toInt_inj, am_nm9, am_nm6, am_nm4, am_nm3, am_nm2, am_nm1, am_n0, am_n1, am_n2, am_n3, am_n4, am_n5, am_n6, am_n7, am_n8, am_n9, am_n10, am_n11, am_n12, am_n20, am_n35, am_n36, am_n60, am_n96, am_n99, am_n255, am_n999] at *; omega)])⟩
    · refine am_Rr.go 5 (σ' := (if (96 : Int32) ≤ i then 30 else 21, [some (.ref 14), some (.int i)], [], x)) rfl ?_
      refine am_Rr.ite (fun h_3 => ?_) (fun h_3 => ?_)
      · refine am_Rr.go 1 (σ' := (32, [some (.ref 14), some (.int i)], [.int (-9)], x)) rfl ?_
        refine am_Rr.ret (v := some (.int (-9))) (x := x) rfl (by trivial) ?_
        exact ⟨rfl, by unfold am_nat14; first | (rw [if_pos (by simp only [Int32.lt_iff_toInt_lt, Int32.le_iff_toInt_le, ← Int32.toInt_inj, am_nm9, am_nm6, am_nm4, am_nm3, am_nm2, am_nm1, am_n0, am_n1, am_n2, am_n3, am_n4, am_n5, am_n6, am_n7, am_n8, am_n9, am_n10, am_n11, am_n12, am_n20, am_n35, am_n36, am_n60, am_n96, am_n99, am_n255, am_n999] at *; omega)]) | (rw [if_neg (by simp only [Int32.lt_iff_toInt_lt, Int32.le_iff_toInt_le, ← Int32.toInt_inj, am_nm9, am_nm6, am_nm4, am_nm3, am_nm2, am_nm1, am_n0, am_n1, am_n2, am_n3, am_n4, am_n5, am_n6, am_n7, am_n8, am_n9, am_n10, am_n11, am_n12, am_n20, am_n35, am_n36, am_n60, am_n96, am_n99, am_n255, am_n999] at *; omega)])⟩
      · refine am_Rr.go 3 (σ' := (26, [some (.ref 14), some (.int i)], [.int i, .ref 15], x)) rfl ?_
        refine am_Rr.chk (σ' := (27, [some (.ref 14), some (.int i)], [.int ((x.2.2.1 15) i.toNatClampNeg)], x)) rfl (by rw [vp_in_iff]; simp only [Int32.lt_iff_toInt_lt, Int32.le_iff_toInt_le, ← Int32.toInt_inj, am_nm9, am_nm6, am_nm4, am_nm3, am_nm2, am_nm1, am_n0, am_n1, am_n2, am_n3, am_n4, am_n5, am_n6, am_n7, am_n8, am_n9, am_n10, am_n11, am_n12, am_n20, am_n35, am_n36, am_n60, am_n96, am_n99, am_n255, am_n999] at *; omega) ?_
        refine am_Rr.go 1 (σ' := (32, [some (.ref 14), some (.int i)], [.int ((x.2.2.1 15) i.toNatClampNeg)], x)) rfl ?_
        refine am_Rr.ret (v := some (.int ((x.2.2.1 15) i.toNatClampNeg))) (x := x) rfl (by trivial) ?_
        exact ⟨rfl, by unfold am_nat14; first | (rw [if_pos (by simp only [Int32.lt_iff_toInt_lt, Int32.le_iff_toInt_le, ← Int32.toInt_inj, am_nm9, am_nm6, am_nm4, am_nm3, am_nm2, am_nm1, am_n0, am_n1, am_n2, am_n3, am_n4, am_n5, am_n6, am_n7, am_n8, am_n9, am_n10, am_n11, am_n12, am_n20, am_n35, am_n36, am_n60, am_n96, am_n99, am_n255, am_n999] at *; omega)]) | (rw [if_neg (by simp only [Int32.lt_iff_toInt_lt, Int32.le_iff_toInt_le, ← Int32.toInt_inj, am_nm9, am_nm6, am_nm4, am_nm3, am_nm2, am_nm1, am_n0, am_n1, am_n2, am_n3, am_n4, am_n5, am_n6, am_n7, am_n8, am_n9, am_n10, am_n11, am_n12, am_n20, am_n35, am_n36, am_n60, am_n96, am_n99, am_n255, am_n999] at *; omega)])⟩
theorem S_isFull_16 (d : Nat) (x : am_X) : am_T (d + 2) mX4_isFull [.ref 16] x (fun ro x' => x = x' ∧ ((ro = some (.int 1) ∧ (12 ≤ (x.1 513).toInt)) ∨ (ro = some (.int 0) ∧ ¬ (12 ≤ (x.1 513).toInt)))) := by
  refine am_T.of rfl ?_
  show am_Rr _ kX4_isFull (0, [some (.ref 16)], [], x) _
  refine am_Rr.go 6 (σ' := (if (x.1 513) < 12 then 16 else 12, [some (.ref 16)], [], x)) rfl ?_
  refine am_Rr.ite (fun h_1 => ?_) (fun h_1 => ?_)
  · refine am_Rr.go 1 (σ' := (17, [some (.ref 16)], [.int 0], x)) rfl ?_
    refine am_Rr.ret (v := some (.int 0)) (x := x) rfl (by first | exact Or.inl rfl | exact Or.inr rfl | assumption) ?_
    exact ⟨rfl, Or.inr ⟨rfl, by simp only [Int32.lt_iff_toInt_lt, Int32.le_iff_toInt_le, ← Int32.toInt_inj, am_nm9, am_nm6, am_nm4, am_nm3, am_nm2, am_nm1, am_n0, am_n1, am_n2, am_n3, am_n4, am_n5, am_n6, am_n7, am_n8, am_n9, am_n10, am_n11, am_n12, am_n20, am_n35, am_n36, am_n60, am_n96, am_n99, am_n255, am_n999] at *; omega⟩⟩
  · refine am_Rr.go 2 (σ' := (17, [some (.ref 16)], [.int 1], x)) rfl ?_
    refine am_Rr.ret (v := some (.int 1)) (x := x) rfl (by first | exact Or.inl rfl | exact Or.inr rfl | assumption) ?_
    exact ⟨rfl, Or.inl ⟨rfl, by simp only [Int32.lt_iff_toInt_lt, Int32.le_iff_toInt_le, ← Int32.toInt_inj, am_nm9, am_nm6, am_nm4, am_nm3, am_nm2, am_nm1, am_n0, am_n1, am_n2, am_n3, am_n4, am_n5, am_n6, am_n7, am_n8, am_n9, am_n10, am_n11, am_n12, am_n20, am_n35, am_n36, am_n60, am_n96, am_n99, am_n255, am_n999] at *; omega⟩⟩
theorem S_add_16 (d : Nat) (v : Int32) (x : am_X) : am_T (d + 2) mX4_add [.ref 16, .int v] x (fun r x' => ((0 ≤ (x.1 513).toInt ∧ (x.1 513).toInt < 12) ∧ r = some (.int ((x.1 513) + 1)) ∧ am_uI (am_sA x 17 (upd (x.2.2.1 17) (x.1 513).toNatClampNeg v)) 513 ((x.1 513) + 1) = x') ∨ (¬ (0 ≤ (x.1 513).toInt ∧ (x.1 513).toInt < 12) ∧ r = some (.int (x.1 513)) ∧ x = x')) := by
  refine am_T.of rfl ?_
  show am_Rr _ kX4_add (0, [some (.ref 16), some (.int v)], [], x) _
  refine am_Rr.go 3 (σ' := (if (x.1 513) < 0 then 39 else 7, [some (.ref 16), some (.int v)], [], x)) rfl ?_
  refine am_Rr.ite (fun h_1 => ?_) (fun h_1 => ?_)
  · refine am_Rr.go 2 (σ' := (43, [some (.ref 16), some (.int v)], [.int (x.1 513)], x)) rfl ?_
    refine am_Rr.ret (v := some (.int (x.1 513))) (x := x) rfl (by trivial) ?_
    first | exact Or.inl ⟨by simp only [Int32.lt_iff_toInt_lt, Int32.le_iff_toInt_le, ← Int32.toInt_inj, am_nm9, am_nm6, am_nm4, am_nm3, am_nm2, am_nm1, am_n0, am_n1, am_n2, am_n3, am_n4, am_n5, am_n6, am_n7, am_n8, am_n9, am_n10, am_n11, am_n12, am_n20, am_n35, am_n36, am_n60, am_n96, am_n99, am_n255, am_n999] at *; omega, rfl, rfl⟩ | exact Or.inr ⟨by simp only [Int32.lt_iff_toInt_lt, Int32.le_iff_toInt_le, ← Int32.toInt_inj, am_nm9, am_nm6, am_nm4, am_nm3, am_nm2, am_nm1, am_n0, am_n1, am_n2, am_n3, am_n4, am_n5, am_n6, am_n7, am_n8, am_n9, am_n10, am_n11, am_n12, am_n20, am_n35, am_n36, am_n60, am_n96, am_n99, am_n255, am_n999] at *; omega, rfl, rfl⟩
  · refine am_Rr.go 6 (σ' := (if (12 : Int32) ≤ (x.1 513) then 39 else 19, [some (.ref 16), some (.int v)], [], x)) rfl ?_
    refine am_Rr.ite (fun h_2 => ?_) (fun h_2 => ?_)
    · refine am_Rr.go 2 (σ' := (43, [some (.ref 16), some (.int v)], [.int (x.1 513)], x)) rfl ?_
      refine am_Rr.ret (v := some (.int (x.1 513))) (x := x) rfl (by trivial) ?_
      first | exact Or.inl ⟨by simp only [Int32.lt_iff_toInt_lt, Int32.le_iff_toInt_le, ← Int32.toInt_inj, am_nm9, am_nm6, am_nm4, am_nm3, am_nm2, am_nm1, am_n0, am_n1, am_n2, am_n3, am_n4, am_n5, am_n6, am_n7, am_n8, am_n9, am_n10, am_n11, am_n12, am_n20, am_n35, am_n36, am_n60, am_n96, am_n99, am_n255, am_n999] at *; omega, rfl, rfl⟩ | exact Or.inr ⟨by simp only [Int32.lt_iff_toInt_lt, Int32.le_iff_toInt_le, ← Int32.toInt_inj, am_nm9, am_nm6, am_nm4, am_nm3, am_nm2, am_nm1, am_n0, am_n1, am_n2, am_n3, am_n4, am_n5, am_n6, am_n7, am_n8, am_n9, am_n10, am_n11, am_n12, am_n20, am_n35, am_n36, am_n60, am_n96, am_n99, am_n255, am_n999] at *; omega, rfl, rfl⟩
    · refine am_Rr.go 5 (σ' := (28, [some (.ref 16), some (.int v)], [.int v, .int (x.1 513), .ref 17], x)) rfl ?_
      refine am_Rr.chk (σ' := (29, [some (.ref 16), some (.int v)], [], (am_sA x 17 (upd (x.2.2.1 17) ((x.1 513).toNatClampNeg) v)))) rfl (by rw [vp_in_iff]; simp only [Int32.lt_iff_toInt_lt, Int32.le_iff_toInt_le, ← Int32.toInt_inj, am_nm9, am_nm6, am_nm4, am_nm3, am_nm2, am_nm1, am_n0, am_n1, am_n2, am_n3, am_n4, am_n5, am_n6, am_n7, am_n8, am_n9, am_n10, am_n11, am_n12, am_n20, am_n35, am_n36, am_n60, am_n96, am_n99, am_n255, am_n999] at *; omega) ?_
      refine am_Rr.go 8 (σ' := (43, [some (.ref 16), some (.int v)], [.int ((x.1 513) + 1)], (am_uI (am_sA x 17 (upd (x.2.2.1 17) ((x.1 513).toNatClampNeg) v)) 513 ((x.1 513) + 1)))) rfl ?_
      refine am_Rr.ret (v := some (.int ((x.1 513) + 1))) (x := (am_uI (am_sA x 17 (upd (x.2.2.1 17) ((x.1 513).toNatClampNeg) v)) 513 ((x.1 513) + 1))) rfl (by trivial) ?_
      first | exact Or.inl ⟨by simp only [Int32.lt_iff_toInt_lt, Int32.le_iff_toInt_le, ← Int32.toInt_inj, am_nm9, am_nm6, am_nm4, am_nm3, am_nm2, am_nm1, am_n0, am_n1, am_n2, am_n3, am_n4, am_n5, am_n6, am_n7, am_n8, am_n9, am_n10, am_n11, am_n12, am_n20, am_n35, am_n36, am_n60, am_n96, am_n99, am_n255, am_n999] at *; omega, rfl, rfl⟩ | exact Or.inr ⟨by simp only [Int32.lt_iff_toInt_lt, Int32.le_iff_toInt_le, ← Int32.toInt_inj, am_nm9, am_nm6, am_nm4, am_nm3, am_nm2, am_nm1, am_n0, am_n1, am_n2, am_n3, am_n4, am_n5, am_n6, am_n7, am_n8, am_n9, am_n10, am_n11, am_n12, am_n20, am_n35, am_n36, am_n60, am_n96, am_n99, am_n255, am_n999] at *; omega, rfl, rfl⟩
theorem S_clear_16 (d : Nat) (x : am_X) : am_T (d + 2) mX4_clear [.ref 16] x (fun r x' => r = none ∧ am_uI x 513 0 = x') := by
  refine am_T.of rfl ?_
  show am_Rr _ kX4_clear (0, [some (.ref 16)], [], x) _
  refine am_Rr.go 3 (σ' := (5, [some (.ref 16)], [], (am_uI x 513 0))) rfl ?_
  refine am_Rr.ret (v := none) (x := (am_uI x 513 0)) rfl (by trivial) ?_
  exact ⟨rfl, rfl⟩
def am_nat16 (n : Int32) (f : Nat → Int32) (i : Int32) : Int32 := if 0 ≤ i.toInt ∧ i.toInt < n.toInt ∧ i.toInt < 12 then f i.toNatClampNeg else (-9)
theorem S_at_16 (d : Nat) (i : Int32) (x : am_X) : am_T (d + 2) mX4_at [.ref 16, .int i] x (fun ro x' => x = x' ∧ ro = some (.int (am_nat16 (x.1 513) (x.2.2.1 17) i))) := by
  refine am_T.of rfl ?_
  show am_Rr _ kX4_at (0, [some (.ref 16), some (.int i)], [], x) _
  refine am_Rr.go 2 (σ' := (if i < 0 then 30 else 4, [some (.ref 16), some (.int i)], [], x)) rfl ?_
  refine am_Rr.ite (fun h_1 => ?_) (fun h_1 => ?_)
  · refine am_Rr.go 1 (σ' := (32, [some (.ref 16), some (.int i)], [.int (-9)], x)) rfl ?_
    refine am_Rr.ret (v := some (.int (-9))) (x := x) rfl (by trivial) ?_
    exact ⟨rfl, by unfold am_nat16; first | (rw [if_pos (by simp only [Int32.lt_iff_toInt_lt, Int32.le_iff_toInt_le, ← Int32.toInt_inj, am_nm9, am_nm6, am_nm4, am_nm3, am_nm2, am_nm1, am_n0, am_n1, am_n2, am_n3, am_n4, am_n5, am_n6, am_n7, am_n8, am_n9, am_n10, am_n11, am_n12, am_n20, am_n35, am_n36, am_n60, am_n96, am_n99, am_n255, am_n999] at *; omega)]) | (rw [if_neg (by simp only [Int32.lt_iff_toInt_lt, Int32.le_iff_toInt_le, ← Int32.toInt_inj, am_nm9, am_nm6, am_nm4, am_nm3, am_nm2, am_nm1, am_n0, am_n1, am_n2, am_n3, am_n4, am_n5, am_n6, am_n7, am_n8, am_n9, am_n10, am_n11, am_n12, am_n20, am_n35, am_n36, am_n60, am_n96, am_n99, am_n255, am_n999] at *; omega)])⟩
  · refine am_Rr.go 4 (σ' := (if (x.1 513) ≤ i then 30 else 12, [some (.ref 16), some (.int i)], [], x)) rfl ?_
    refine am_Rr.ite (fun h_2 => ?_) (fun h_2 => ?_)
    · refine am_Rr.go 1 (σ' := (32, [some (.ref 16), some (.int i)], [.int (-9)], x)) rfl ?_
      refine am_Rr.ret (v := some (.int (-9))) (x := x) rfl (by trivial) ?_
      exact ⟨rfl, by unfold am_nat16; first | (rw [if_pos (by simp only [Int32.lt_iff_toInt_lt, Int32.le_iff_toInt_le, ← Int32.toInt_inj, am_nm9, am_nm6, am_nm4, am_nm3, am_nm2, am_nm1, am_n0, am_n1, am_n2, am_n3, am_n4, am_n5, am_n6, am_n7, am_n8, am_n9, am_n10, am_n11, am_n12, am_n20, am_n35, am_n36, am_n60, am_n96, am_n99, am_n255, am_n999] at *; omega)]) | (rw [if_neg (by simp only [Int32.lt_iff_toInt_lt, Int32.le_iff_toInt_le, ← Int32.toInt_inj, am_nm9, am_nm6, am_nm4, am_nm3, am_nm2, am_nm1, am_n0, am_n1, am_n2, am_n3, am_n4, am_n5, am_n6, am_n7, am_n8, am_n9, am_n10, am_n11, am_n12, am_n20, am_n35, am_n36, am_n60, am_n96, am_n99, am_n255, am_n999] at *; omega)])⟩
    · refine am_Rr.go 5 (σ' := (if (12 : Int32) ≤ i then 30 else 21, [some (.ref 16), some (.int i)], [], x)) rfl ?_
      refine am_Rr.ite (fun h_3 => ?_) (fun h_3 => ?_)
      · refine am_Rr.go 1 (σ' := (32, [some (.ref 16), some (.int i)], [.int (-9)], x)) rfl ?_
        refine am_Rr.ret (v := some (.int (-9))) (x := x) rfl (by trivial) ?_
        exact ⟨rfl, by unfold am_nat16; first | (rw [if_pos (by simp only [Int32.lt_iff_toInt_lt, Int32.le_iff_toInt_le, ← Int32.toInt_inj, am_nm9, am_nm6, am_nm4, am_nm3, am_nm2, am_nm1, am_n0, am_n1, am_n2, am_n3, am_n4, am_n5, am_n6, am_n7, am_n8, am_n9, am_n10, am_n11, am_n12, am_n20, am_n35, am_n36, am_n60, am_n96, am_n99, am_n255, am_n999] at *; omega)]) | (rw [if_neg (by simp only [Int32.lt_iff_toInt_lt, Int32.le_iff_toInt_le, ← Int32.toInt_inj, am_nm9, am_nm6, am_nm4, am_nm3, am_nm2, am_nm1, am_n0, am_n1, am_n2, am_n3, am_n4, am_n5, am_n6, am_n7, am_n8, am_n9, am_n10, am_n11, am_n12, am_n20, am_n35, am_n36, am_n60, am_n96, am_n99, am_n255, am_n999] at *; omega)])⟩
      · refine am_Rr.go 3 (σ' := (26, [some (.ref 16), some (.int i)], [.int i, .ref 17], x)) rfl ?_
        refine am_Rr.chk (σ' := (27, [some (.ref 16), some (.int i)], [.int ((x.2.2.1 17) i.toNatClampNeg)], x)) rfl (by rw [vp_in_iff]; simp only [Int32.lt_iff_toInt_lt, Int32.le_iff_toInt_le, ← Int32.toInt_inj, am_nm9, am_nm6, am_nm4, am_nm3, am_nm2, am_nm1, am_n0, am_n1, am_n2, am_n3, am_n4, am_n5, am_n6, am_n7, am_n8, am_n9, am_n10, am_n11, am_n12, am_n20, am_n35, am_n36, am_n60, am_n96, am_n99, am_n255, am_n999] at *; omega) ?_
        refine am_Rr.go 1 (σ' := (32, [some (.ref 16), some (.int i)], [.int ((x.2.2.1 17) i.toNatClampNeg)], x)) rfl ?_
        refine am_Rr.ret (v := some (.int ((x.2.2.1 17) i.toNatClampNeg))) (x := x) rfl (by trivial) ?_
        exact ⟨rfl, by unfold am_nat16; first | (rw [if_pos (by simp only [Int32.lt_iff_toInt_lt, Int32.le_iff_toInt_le, ← Int32.toInt_inj, am_nm9, am_nm6, am_nm4, am_nm3, am_nm2, am_nm1, am_n0, am_n1, am_n2, am_n3, am_n4, am_n5, am_n6, am_n7, am_n8, am_n9, am_n10, am_n11, am_n12, am_n20, am_n35, am_n36, am_n60, am_n96, am_n99, am_n255, am_n999] at *; omega)]) | (rw [if_neg (by simp only [Int32.lt_iff_toInt_lt, Int32.le_iff_toInt_le, ← Int32.toInt_inj, am_nm9, am_nm6, am_nm4, am_nm3, am_nm2, am_nm1, am_n0, am_n1, am_n2, am_n3, am_n4, am_n5, am_n6, am_n7, am_n8, am_n9, am_n10, am_n11, am_n12, am_n20, am_n35, am_n36, am_n60, am_n96, am_n99, am_n255, am_n999] at *; omega)])⟩
theorem S_seed (d : Nat) (z : Int32) (x : am_X) : am_T (d + 2) mX3_seed [.ref 25, .int z] x (fun r x' => r = none ∧ am_uI x 800 z = x') := by
  refine am_T.of rfl ?_
  show am_Rr _ kX3_seed (0, [some (.ref 25), some (.int z)], [], x) _
  refine am_Rr.go 3 (σ' := (5, [some (.ref 25), some (.int z)], [], (am_uI x 800 z))) rfl ?_
  refine am_Rr.ret (v := none) (x := (am_uI x 800 z)) rfl (by trivial) ?_
  exact ⟨rfl, rfl⟩
