/-! kinds, wave: laid by wip/whole/p13.py -/
theorem am_inc (n : Nat) : nI n + 1 = nI (n + 1) := nI_1 n
def am_kat (f : Nat → Int64) (q : Int32) : Int32 := if (¬ (am_sqo f 0 &&& am_bit q) = 0) then 0 else if (¬ (am_sqo f 1 &&& am_bit q) = 0) then 1 else if (¬ (am_sqo f 2 &&& am_bit q) = 0) then 2 else if (¬ (am_sqo f 3 &&& am_bit q) = 0) then 3 else if (¬ (am_sqo f 4 &&& am_bit q) = 0) then 4 else if (¬ (am_sqo f 5 &&& am_bit q) = 0) then 5 else 0
theorem S_kindAt_1 (d : Nat) (q : Int32) (x : am_X) : am_T (d + 5) mX1_kindAt [.ref 1, .int q] x (fun ro x' => x = x' ∧ ro = some (.int (am_kat (x.2.2.2 2) q))) := by
  refine am_T.of rfl ?_
  show am_Rr _ kX1_kindAt (0, [some (.ref 1), some (.int q), none], [], x) _
  refine am_Rr.go 7 (σ' := (10, [some (.ref 1), some (.int q), some (.int 0)], [.int 0, .ref 1], x)) rfl ?_
  refine am_Rr.call (pc := 13) (ls := [some (.ref 1), some (.int q), some (.int 0)]) (st := []) rfl (S_squaresOf_1 (d + 2) (0 : Int32) x) ?_
  rintro _ _ ⟨rfl, rfl⟩
  show am_Rr _ _ (13, [some (.ref 1), some (.int q), some (.int 0)], [.long (am_sqo (x.2.2.2 2) (0 : Int32))], x) _
  refine am_Rr.go 1 (σ' := (14, [some (.ref 1), some (.int q), some (.int 0)], [.int q, .long (am_sqo (x.2.2.2 2) (0 : Int32))], x)) rfl ?_
  refine am_Rr.call (pc := 17) (ls := [some (.ref 1), some (.int q), some (.int 0)]) (st := []) rfl (S_has d (am_sqo (x.2.2.2 2) (0 : Int32)) q x) ?_
  rintro _ _ ⟨rfl, (⟨rfl, b_2⟩ | ⟨rfl, b_2⟩)⟩
  · show am_Rr _ _ (17, [some (.ref 1), some (.int q), some (.int 0)], [.int 1], x) _
    refine am_Rr.go 2 (σ' := (21, [some (.ref 1), some (.int q), some (.int 0)], [.int 0], x)) rfl ?_
    refine am_Rr.ret (v := some (.int 0)) (x := x) rfl (by trivial) ?_
    exact ⟨rfl, by unfold am_hasb at *; unfold am_kat; simp only [*, if_true, if_false, not_true_eq_false, not_false_eq_true]⟩
  · show am_Rr _ _ (17, [some (.ref 1), some (.int q), some (.int 0)], [.int 0], x) _
    refine am_Rr.go 8 (σ' := (10, [some (.ref 1), some (.int q), some (.int 1)], [.int 1, .ref 1], x)) rfl ?_
    refine am_Rr.call (pc := 13) (ls := [some (.ref 1), some (.int q), some (.int 1)]) (st := []) rfl (S_squaresOf_1 (d + 2) (1 : Int32) x) ?_
    rintro _ _ ⟨rfl, rfl⟩
    show am_Rr _ _ (13, [some (.ref 1), some (.int q), some (.int 1)], [.long (am_sqo (x.2.2.2 2) (1 : Int32))], x) _
    refine am_Rr.go 1 (σ' := (14, [some (.ref 1), some (.int q), some (.int 1)], [.int q, .long (am_sqo (x.2.2.2 2) (1 : Int32))], x)) rfl ?_
    refine am_Rr.call (pc := 17) (ls := [some (.ref 1), some (.int q), some (.int 1)]) (st := []) rfl (S_has d (am_sqo (x.2.2.2 2) (1 : Int32)) q x) ?_
    rintro _ _ ⟨rfl, (⟨rfl, b_5⟩ | ⟨rfl, b_5⟩)⟩
    · show am_Rr _ _ (17, [some (.ref 1), some (.int q), some (.int 1)], [.int 1], x) _
      refine am_Rr.go 2 (σ' := (21, [some (.ref 1), some (.int q), some (.int 1)], [.int 1], x)) rfl ?_
      refine am_Rr.ret (v := some (.int 1)) (x := x) rfl (by trivial) ?_
      exact ⟨rfl, by unfold am_hasb at *; unfold am_kat; simp only [*, if_true, if_false, not_true_eq_false, not_false_eq_true]⟩
    · show am_Rr _ _ (17, [some (.ref 1), some (.int q), some (.int 1)], [.int 0], x) _
      refine am_Rr.go 8 (σ' := (10, [some (.ref 1), some (.int q), some (.int 2)], [.int 2, .ref 1], x)) rfl ?_
      refine am_Rr.call (pc := 13) (ls := [some (.ref 1), some (.int q), some (.int 2)]) (st := []) rfl (S_squaresOf_1 (d + 2) (2 : Int32) x) ?_
      rintro _ _ ⟨rfl, rfl⟩
      show am_Rr _ _ (13, [some (.ref 1), some (.int q), some (.int 2)], [.long (am_sqo (x.2.2.2 2) (2 : Int32))], x) _
      refine am_Rr.go 1 (σ' := (14, [some (.ref 1), some (.int q), some (.int 2)], [.int q, .long (am_sqo (x.2.2.2 2) (2 : Int32))], x)) rfl ?_
      refine am_Rr.call (pc := 17) (ls := [some (.ref 1), some (.int q), some (.int 2)]) (st := []) rfl (S_has d (am_sqo (x.2.2.2 2) (2 : Int32)) q x) ?_
      rintro _ _ ⟨rfl, (⟨rfl, b_8⟩ | ⟨rfl, b_8⟩)⟩
      · show am_Rr _ _ (17, [some (.ref 1), some (.int q), some (.int 2)], [.int 1], x) _
        refine am_Rr.go 2 (σ' := (21, [some (.ref 1), some (.int q), some (.int 2)], [.int 2], x)) rfl ?_
        refine am_Rr.ret (v := some (.int 2)) (x := x) rfl (by trivial) ?_
        exact ⟨rfl, by unfold am_hasb at *; unfold am_kat; simp only [*, if_true, if_false, not_true_eq_false, not_false_eq_true]⟩
      · show am_Rr _ _ (17, [some (.ref 1), some (.int q), some (.int 2)], [.int 0], x) _
        refine am_Rr.go 8 (σ' := (10, [some (.ref 1), some (.int q), some (.int 3)], [.int 3, .ref 1], x)) rfl ?_
        refine am_Rr.call (pc := 13) (ls := [some (.ref 1), some (.int q), some (.int 3)]) (st := []) rfl (S_squaresOf_1 (d + 2) (3 : Int32) x) ?_
        rintro _ _ ⟨rfl, rfl⟩
        show am_Rr _ _ (13, [some (.ref 1), some (.int q), some (.int 3)], [.long (am_sqo (x.2.2.2 2) (3 : Int32))], x) _
        refine am_Rr.go 1 (σ' := (14, [some (.ref 1), some (.int q), some (.int 3)], [.int q, .long (am_sqo (x.2.2.2 2) (3 : Int32))], x)) rfl ?_
        refine am_Rr.call (pc := 17) (ls := [some (.ref 1), some (.int q), some (.int 3)]) (st := []) rfl (S_has d (am_sqo (x.2.2.2 2) (3 : Int32)) q x) ?_
        rintro _ _ ⟨rfl, (⟨rfl, b_11⟩ | ⟨rfl, b_11⟩)⟩
        · show am_Rr _ _ (17, [some (.ref 1), some (.int q), some (.int 3)], [.int 1], x) _
          refine am_Rr.go 2 (σ' := (21, [some (.ref 1), some (.int q), some (.int 3)], [.int 3], x)) rfl ?_
          refine am_Rr.ret (v := some (.int 3)) (x := x) rfl (by trivial) ?_
          exact ⟨rfl, by unfold am_hasb at *; unfold am_kat; simp only [*, if_true, if_false, not_true_eq_false, not_false_eq_true]⟩
        · show am_Rr _ _ (17, [some (.ref 1), some (.int q), some (.int 3)], [.int 0], x) _
          refine am_Rr.go 8 (σ' := (10, [some (.ref 1), some (.int q), some (.int 4)], [.int 4, .ref 1], x)) rfl ?_
          refine am_Rr.call (pc := 13) (ls := [some (.ref 1), some (.int q), some (.int 4)]) (st := []) rfl (S_squaresOf_1 (d + 2) (4 : Int32) x) ?_
          rintro _ _ ⟨rfl, rfl⟩
          show am_Rr _ _ (13, [some (.ref 1), some (.int q), some (.int 4)], [.long (am_sqo (x.2.2.2 2) (4 : Int32))], x) _
          refine am_Rr.go 1 (σ' := (14, [some (.ref 1), some (.int q), some (.int 4)], [.int q, .long (am_sqo (x.2.2.2 2) (4 : Int32))], x)) rfl ?_
          refine am_Rr.call (pc := 17) (ls := [some (.ref 1), some (.int q), some (.int 4)]) (st := []) rfl (S_has d (am_sqo (x.2.2.2 2) (4 : Int32)) q x) ?_
          rintro _ _ ⟨rfl, (⟨rfl, b_14⟩ | ⟨rfl, b_14⟩)⟩
          · show am_Rr _ _ (17, [some (.ref 1), some (.int q), some (.int 4)], [.int 1], x) _
            refine am_Rr.go 2 (σ' := (21, [some (.ref 1), some (.int q), some (.int 4)], [.int 4], x)) rfl ?_
            refine am_Rr.ret (v := some (.int 4)) (x := x) rfl (by trivial) ?_
            exact ⟨rfl, by unfold am_hasb at *; unfold am_kat; simp only [*, if_true, if_false, not_true_eq_false, not_false_eq_true]⟩
          · show am_Rr _ _ (17, [some (.ref 1), some (.int q), some (.int 4)], [.int 0], x) _
            refine am_Rr.go 8 (σ' := (10, [some (.ref 1), some (.int q), some (.int 5)], [.int 5, .ref 1], x)) rfl ?_
            refine am_Rr.call (pc := 13) (ls := [some (.ref 1), some (.int q), some (.int 5)]) (st := []) rfl (S_squaresOf_1 (d + 2) (5 : Int32) x) ?_
            rintro _ _ ⟨rfl, rfl⟩
            show am_Rr _ _ (13, [some (.ref 1), some (.int q), some (.int 5)], [.long (am_sqo (x.2.2.2 2) (5 : Int32))], x) _
            refine am_Rr.go 1 (σ' := (14, [some (.ref 1), some (.int q), some (.int 5)], [.int q, .long (am_sqo (x.2.2.2 2) (5 : Int32))], x)) rfl ?_
            refine am_Rr.call (pc := 17) (ls := [some (.ref 1), some (.int q), some (.int 5)]) (st := []) rfl (S_has d (am_sqo (x.2.2.2 2) (5 : Int32)) q x) ?_
            rintro _ _ ⟨rfl, (⟨rfl, b_17⟩ | ⟨rfl, b_17⟩)⟩
            · show am_Rr _ _ (17, [some (.ref 1), some (.int q), some (.int 5)], [.int 1], x) _
              refine am_Rr.go 2 (σ' := (21, [some (.ref 1), some (.int q), some (.int 5)], [.int 5], x)) rfl ?_
              refine am_Rr.ret (v := some (.int 5)) (x := x) rfl (by trivial) ?_
              exact ⟨rfl, by unfold am_hasb at *; unfold am_kat; simp only [*, if_true, if_false, not_true_eq_false, not_false_eq_true]⟩
            · show am_Rr _ _ (17, [some (.ref 1), some (.int q), some (.int 5)], [.int 0], x) _
              refine am_Rr.go 7 (σ' := (29, [some (.ref 1), some (.int q), some (.int 6)], [.int 0], x)) rfl ?_
              refine am_Rr.ret (v := some (.int 0)) (x := x) rfl (by trivial) ?_
              exact ⟨rfl, by unfold am_hasb at *; unfold am_kat; simp only [*, if_true, if_false, not_true_eq_false, not_false_eq_true]⟩
def am_sof (f : Nat → Int64) (w q : Int32) : Int32 := if am_kat f q = 1 then 0 else if am_kat f q = 2 then 1 else if am_kat f q = 3 then am_sun w else if am_kat f q = 4 then 2 else if am_kat f q = 5 then 0 else 1
theorem S_stepsOff_1 (d : Nat) (q : Int32) (x : am_X) : am_T (d + 6) mX1_stepsOff [.ref 1, .int q] x (fun ro x' => x = x' ∧ ro = some (.int (am_sof (x.2.2.2 2) (x.1 38) q))) := by
  refine am_T.of rfl ?_
  show am_Rr _ kX1_stepsOff (0, [some (.ref 1), some (.int q)], [], x) _
  refine am_Rr.go 2 (σ' := (2, [some (.ref 1), some (.int q)], [.int q, .ref 1], x)) rfl ?_
  refine am_Rr.call (pc := 5) (ls := [some (.ref 1), some (.int q)]) (st := []) rfl (S_kindAt_1 d q x) ?_
  rintro _ _ ⟨rfl, rfl⟩
  show am_Rr _ _ (5, [some (.ref 1), some (.int q)], [.int (am_kat (x.2.2.2 2) q)], x) _
  refine am_Rr.go 1 (σ' := ((if (am_kat (x.2.2.2 2) q) = 1 then 40 else (if (am_kat (x.2.2.2 2) q) = 2 then 51 else (if (am_kat (x.2.2.2 2) q) = 3 then 44 else (if (am_kat (x.2.2.2 2) q) = 4 then 49 else (if (am_kat (x.2.2.2 2) q) = 5 then 42 else 51))))), [some (.ref 1), some (.int q)], [], x)) rfl ?_
  refine am_Rr.ite (fun h_2 => ?_) (fun h_2 => ?_)
  · refine am_Rr.go 1 (σ' := (41, [some (.ref 1), some (.int q)], [.int 0], x)) rfl ?_
    refine am_Rr.ret (v := some (.int 0)) (x := x) rfl (by trivial) ?_
    exact ⟨rfl, by unfold am_sof; simp only [*, if_true, if_false] <;> first | rfl | decide⟩
  refine am_Rr.ite (fun h_3 => ?_) (fun h_3 => ?_)
  · refine am_Rr.go 1 (σ' := (52, [some (.ref 1), some (.int q)], [.int 1], x)) rfl ?_
    refine am_Rr.ret (v := some (.int 1)) (x := x) rfl (by trivial) ?_
    exact ⟨rfl, by unfold am_sof; simp only [*, if_true, if_false] <;> first | rfl | decide⟩
  refine am_Rr.ite (fun h_4 => ?_) (fun h_4 => ?_)
  · refine am_Rr.go 1 (σ' := (45, [some (.ref 1), some (.int q)], [.ref 1], x)) rfl ?_
    refine am_Rr.call (pc := 48) (ls := [some (.ref 1), some (.int q)]) (st := []) rfl (S_stepsOffSun_1 (d + 3)  x) ?_
    rintro _ _ ⟨rfl, rfl⟩
    show am_Rr _ _ (48, [some (.ref 1), some (.int q)], [.int (am_sun (x.1 38))], x) _
    refine am_Rr.ret (v := some (.int (am_sun (x.1 38)))) (x := x) rfl (by trivial) ?_
    exact ⟨rfl, by unfold am_sof; simp only [*, if_true, if_false] <;> first | rfl | decide⟩
  refine am_Rr.ite (fun h_6 => ?_) (fun h_6 => ?_)
  · refine am_Rr.go 1 (σ' := (50, [some (.ref 1), some (.int q)], [.int 2], x)) rfl ?_
    refine am_Rr.ret (v := some (.int 2)) (x := x) rfl (by trivial) ?_
    exact ⟨rfl, by unfold am_sof; simp only [*, if_true, if_false] <;> first | rfl | decide⟩
  refine am_Rr.ite (fun h_7 => ?_) (fun h_7 => ?_)
  · refine am_Rr.go 1 (σ' := (43, [some (.ref 1), some (.int q)], [.int 0], x)) rfl ?_
    refine am_Rr.ret (v := some (.int 0)) (x := x) rfl (by trivial) ?_
    exact ⟨rfl, by unfold am_sof; simp only [*, if_true, if_false] <;> first | rfl | decide⟩
  refine am_Rr.go 1 (σ' := (52, [some (.ref 1), some (.int q)], [.int 1], x)) rfl ?_
  refine am_Rr.ret (v := some (.int 1)) (x := x) rfl (by trivial) ?_
  exact ⟨rfl, by unfold am_sof; simp only [*, if_true, if_false] <;> first | rfl | decide⟩
def am_seg (a b : Int32) : Int64 := (1 : Int64) <<< ((b + 1).toInt64 &&& 63) - (1 : Int64) <<< (a.toInt64 &&& 63)
def am_laf (w : Int64) : Nat → Nat → (Nat → Int64) → (Nat → Int64)
  | 0, _, f => f
  | n + 1, i, f => am_laf w n (i + 1) (vp_updL f i (f i &&& (w ^^^ (-1))))
theorem am_cln {n : Nat} (h : n < 2147483648) : (nI n).toNatClampNeg = n := nI_clamp h
theorem L_lay_1 (d : Nat) (k a b : Int32) (w : Int64) (x : am_X) (post : Option Value → am_X → Prop) : ∀ (n i : Nat) (f : Nat → Int64), i + n = 6 → am_Rr d kX1_lay (105, [some (.ref 1), some (.int k), some (.int a), some (.int b), some (.long w), none, some (.int 6)], [], am_sB x 2 (am_laf w n i f)) post → am_Rr d kX1_lay (73, [some (.ref 1), some (.int k), some (.int a), some (.int b), some (.long w), none, some (.int (nI i))], [], am_sB x 2 f) post := by
  intro n
  induction n with
  | zero =>
    intro i f h hk
    have hI : (nI i).toInt = (i : Int) := nI_toInt (by omega)
    refine am_Rr.go 5 (σ' := (if (6 : Int32) ≤ (nI i) then 105 else 83, [some (.ref 1), some (.int k), some (.int a), some (.int b), some (.long w), none, some (.int (nI i))], [], (am_sB x 2 f))) rfl ?_
    refine am_Rr.ite (fun h_1 => ?_) (fun h_1 => ?_)
    · have e : i = 6 := by omega
      subst e
      exact hk
    · exfalso
      simp only [Int32.lt_iff_toInt_lt, Int32.le_iff_toInt_le, ← Int32.toInt_inj, am_nm9, am_nm6, am_nm4, am_nm3, am_nm2, am_nm1, am_n0, am_n1, am_n2, am_n3, am_n4, am_n5, am_n6, am_n7, am_n8, am_n9, am_n10, am_n11, am_n12, am_n20, am_n35, am_n36, am_n60, am_n96, am_n99, am_n255, am_n999] at *; omega
  | succ n ih =>
    intro i f h hk
    have hcl : (nI i).toNatClampNeg = i := am_cln (by omega)
    have hI : (nI i).toInt = (i : Int) := nI_toInt (by omega)
    refine am_Rr.go 5 (σ' := (if (6 : Int32) ≤ (nI i) then 105 else 83, [some (.ref 1), some (.int k), some (.int a), some (.int b), some (.long w), none, some (.int (nI i))], [], (am_sB x 2 f))) rfl ?_
    refine am_Rr.ite (fun h_1 => ?_) (fun h_1 => ?_)
    · exfalso
      simp only [Int32.lt_iff_toInt_lt, Int32.le_iff_toInt_le, ← Int32.toInt_inj, am_nm9, am_nm6, am_nm4, am_nm3, am_nm2, am_nm1, am_n0, am_n1, am_n2, am_n3, am_n4, am_n5, am_n6, am_n7, am_n8, am_n9, am_n10, am_n11, am_n12, am_n20, am_n35, am_n36, am_n60, am_n96, am_n99, am_n255, am_n999] at *; omega
    · refine am_Rr.go 4 (σ' := (90, [some (.ref 1), some (.int k), some (.int a), some (.int b), some (.long w), none, some (.int (nI i))], [.int (nI i), .ref 2, .int (nI i), .ref 2], (am_sB x 2 f))) rfl ?_
      refine am_Rr.chk (σ' := (91, [some (.ref 1), some (.int k), some (.int a), some (.int b), some (.long w), none, some (.int (nI i))], [.long (f (nI i).toNatClampNeg), .int (nI i), .ref 2], (am_sB x 2 f))) rfl (by rw [vp_in_iff]; omega) ?_
      refine am_Rr.go 4 (σ' := (98, [some (.ref 1), some (.int k), some (.int a), some (.int b), some (.long w), none, some (.int (nI i))], [.long ((f (nI i).toNatClampNeg) &&& (w ^^^ (-1))), .int (nI i), .ref 2], (am_sB x 2 f))) rfl ?_
      refine am_Rr.chk (σ' := (99, [some (.ref 1), some (.int k), some (.int a), some (.int b), some (.long w), none, some (.int (nI i))], [], (am_sB (am_sB x 2 f) 2 (vp_updL f ((nI i).toNatClampNeg) ((f (nI i).toNatClampNeg) &&& (w ^^^ (-1))))))) rfl (by rw [vp_in_iff]; omega) ?_
      refine am_Rr.cong (x1 := (am_sB x 2 (vp_updL f ((nI i).toNatClampNeg) ((f (nI i).toNatClampNeg) &&& (w ^^^ (-1)))))) (am_sBB _ _ _ _) ?_
      refine am_Rr.go 2 (σ' := (73, [some (.ref 1), some (.int k), some (.int a), some (.int b), some (.long w), none, some (.int ((nI i) + 1))], [], (am_sB x 2 (vp_updL f ((nI i).toNatClampNeg) ((f (nI i).toNatClampNeg) &&& (w ^^^ (-1))))))) rfl ?_
      rw [am_inc, hcl]
      exact ih (i + 1) _ (by omega) hk
def am_lay1 (x : am_X) (k a b : Int32) : am_X := am_sB x 2 (vp_updL (am_laf (am_seg a b) 6 0 (x.2.2.2 2)) k.toNatClampNeg (am_laf (am_seg a b) 6 0 (x.2.2.2 2) k.toNatClampNeg ||| am_seg a b))
theorem S_lay_1 (d : Nat) (k a b : Int32) (x : am_X) : am_T (d + 3) mX1_lay [.ref 1, .int k, .int a, .int b] x (fun r x' => ((am_sq a ∧ am_sq b ∧ a.toInt ≤ b.toInt ∧ 0 ≤ k.toInt ∧ k.toInt < 6 ∧ ¬ (k.toInt = 1 ∧ a.toInt ≤ (x.1 36).toInt ∧ (x.1 36).toInt ≤ b.toInt)) ∧ r = some (.int 1) ∧ am_lay1 x k a b = x') ∨ (¬ (am_sq a ∧ am_sq b ∧ a.toInt ≤ b.toInt ∧ 0 ≤ k.toInt ∧ k.toInt < 6 ∧ ¬ (k.toInt = 1 ∧ a.toInt ≤ (x.1 36).toInt ∧ (x.1 36).toInt ≤ b.toInt)) ∧ r = some (.int 0) ∧ x = x')) := by
  refine am_T.of rfl ?_
  show am_Rr _ kX1_lay (0, [some (.ref 1), some (.int k), some (.int a), some (.int b), none, none, none], [], x) _
  refine am_Rr.go 1 (σ' := (1, [some (.ref 1), some (.int k), some (.int a), some (.int b), none, none, none], [.int a], x)) rfl ?_
  refine am_Rr.call (pc := 4) (ls := [some (.ref 1), some (.int k), some (.int a), some (.int b), none, none, none]) (st := []) rfl (S_isSquare d a x) ?_
  rintro _ _ ⟨rfl, (⟨rfl, b_1⟩ | ⟨rfl, b_1⟩)⟩
  · show am_Rr _ _ (4, [some (.ref 1), some (.int k), some (.int a), some (.int b), none, none, none], [.int 1], x) _
    refine am_Rr.go 2 (σ' := (8, [some (.ref 1), some (.int k), some (.int a), some (.int b), none, none, none], [.int b], x)) rfl ?_
    refine am_Rr.call (pc := 11) (ls := [some (.ref 1), some (.int k), some (.int a), some (.int b), none, none, none]) (st := []) rfl (S_isSquare d b x) ?_
    rintro _ _ ⟨rfl, (⟨rfl, b_3⟩ | ⟨rfl, b_3⟩)⟩
    · show am_Rr _ _ (11, [some (.ref 1), some (.int k), some (.int a), some (.int b), none, none, none], [.int 1], x) _
      refine am_Rr.go 4 (σ' := (if a ≤ b then 21 else 19, [some (.ref 1), some (.int k), some (.int a), some (.int b), none, none, none], [], x)) rfl ?_
      refine am_Rr.ite (fun h_5 => ?_) (fun h_5 => ?_)
      · refine am_Rr.go 2 (σ' := (if k < 0 then 34 else 25, [some (.ref 1), some (.int k), some (.int a), some (.int b), none, none, none], [], x)) rfl ?_
        refine am_Rr.ite (fun h_6 => ?_) (fun h_6 => ?_)
        · refine am_Rr.go 1 (σ' := (35, [some (.ref 1), some (.int k), some (.int a), some (.int b), none, none, none], [.int 0], x)) rfl ?_
          refine am_Rr.ret (v := some (.int 0)) (x := x) rfl (by first | exact Or.inl rfl | exact Or.inr rfl | assumption) ?_
          first | exact Or.inr ⟨fun z => absurd z.1 (by assumption), rfl, rfl⟩ | exact Or.inr ⟨fun z => absurd z.2.1 (by assumption), rfl, rfl⟩ | exact Or.inr ⟨by rintro ⟨-, -, z1, z2, z3, z4⟩; simp only [Int32.lt_iff_toInt_lt, Int32.le_iff_toInt_le, ← Int32.toInt_inj, am_nm9, am_nm6, am_nm4, am_nm3, am_nm2, am_nm1, am_n0, am_n1, am_n2, am_n3, am_n4, am_n5, am_n6, am_n7, am_n8, am_n9, am_n10, am_n11, am_n12, am_n20, am_n35, am_n36, am_n60, am_n96, am_n99, am_n255, am_n999] at *; omega, rfl, rfl⟩
        · refine am_Rr.go 5 (σ' := (if k < 6 then 36 else 34, [some (.ref 1), some (.int k), some (.int a), some (.int b), none, none, none], [], x)) rfl ?_
          refine am_Rr.ite (fun h_7 => ?_) (fun h_7 => ?_)
          · refine am_Rr.go 3 (σ' := (if k = 1 then 41 else 59, [some (.ref 1), some (.int k), some (.int a), some (.int b), none, none, none], [], x)) rfl ?_
            refine am_Rr.ite (fun h_8 => ?_) (fun h_8 => ?_)
            · refine am_Rr.go 4 (σ' := (if (x.1 36) < a then 59 else 49, [some (.ref 1), some (.int k), some (.int a), some (.int b), none, none, none], [], x)) rfl ?_
              refine am_Rr.ite (fun h_9 => ?_) (fun h_9 => ?_)
              · refine am_Rr.go 12 (σ' := (73, [some (.ref 1), some (.int k), some (.int a), some (.int b), some (.long ((1 <<< ((b + 1).toInt64 &&& 63)) - (1 <<< (a.toInt64 &&& 63)))), none, some (.int 0)], [], x)) rfl ?_
                rw [show (0 : Int32) = nI 0 from rfl]
                refine am_Rr.cong (x1 := am_sB x 2 (x.2.2.2 2)) (am_sB_self x 2).symm ?_
                refine L_lay_1 _ k a b (am_seg a b) x _ 6 0 _ rfl ?_
                refine am_Rr.go 4 (σ' := (111, [some (.ref 1), some (.int k), some (.int a), some (.int b), some (.long (am_seg a b)), none, some (.int 6)], [.int k, .ref 2, .int k, .ref 2], (am_sB x 2 (am_laf (am_seg a b) 6 0 (x.2.2.2 2))))) rfl ?_
                refine am_Rr.chk (σ' := (112, [some (.ref 1), some (.int k), some (.int a), some (.int b), some (.long (am_seg a b)), none, some (.int 6)], [.long ((am_laf (am_seg a b) 6 0 (x.2.2.2 2)) k.toNatClampNeg), .int k, .ref 2], (am_sB x 2 (am_laf (am_seg a b) 6 0 (x.2.2.2 2))))) rfl (by rw [vp_in_iff]; simp only [Int32.lt_iff_toInt_lt, Int32.le_iff_toInt_le, ← Int32.toInt_inj, am_nm9, am_nm6, am_nm4, am_nm3, am_nm2, am_nm1, am_n0, am_n1, am_n2, am_n3, am_n4, am_n5, am_n6, am_n7, am_n8, am_n9, am_n10, am_n11, am_n12, am_n20, am_n35, am_n36, am_n60, am_n96, am_n99, am_n255, am_n999] at *; omega) ?_
                refine am_Rr.go 2 (σ' := (115, [some (.ref 1), some (.int k), some (.int a), some (.int b), some (.long (am_seg a b)), none, some (.int 6)], [.long (((am_laf (am_seg a b) 6 0 (x.2.2.2 2)) k.toNatClampNeg) ||| (am_seg a b)), .int k, .ref 2], (am_sB x 2 (am_laf (am_seg a b) 6 0 (x.2.2.2 2))))) rfl ?_
                refine am_Rr.chk (σ' := (116, [some (.ref 1), some (.int k), some (.int a), some (.int b), some (.long (am_seg a b)), none, some (.int 6)], [], (am_sB (am_sB x 2 (am_laf (am_seg a b) 6 0 (x.2.2.2 2))) 2 (vp_updL (am_laf (am_seg a b) 6 0 (x.2.2.2 2)) k.toNatClampNeg (((am_laf (am_seg a b) 6 0 (x.2.2.2 2)) k.toNatClampNeg) ||| (am_seg a b)))))) rfl (by rw [vp_in_iff]; simp only [Int32.lt_iff_toInt_lt, Int32.le_iff_toInt_le, ← Int32.toInt_inj, am_nm9, am_nm6, am_nm4, am_nm3, am_nm2, am_nm1, am_n0, am_n1, am_n2, am_n3, am_n4, am_n5, am_n6, am_n7, am_n8, am_n9, am_n10, am_n11, am_n12, am_n20, am_n35, am_n36, am_n60, am_n96, am_n99, am_n255, am_n999] at *; omega) ?_
                refine am_Rr.cong (x1 := (am_sB x 2 (vp_updL (am_laf (am_seg a b) 6 0 (x.2.2.2 2)) k.toNatClampNeg (((am_laf (am_seg a b) 6 0 (x.2.2.2 2)) k.toNatClampNeg) ||| (am_seg a b))))) (am_sBB _ _ _ _) ?_
                refine am_Rr.go 1 (σ' := (117, [some (.ref 1), some (.int k), some (.int a), some (.int b), some (.long (am_seg a b)), none, some (.int 6)], [.int 1], (am_sB x 2 (vp_updL (am_laf (am_seg a b) 6 0 (x.2.2.2 2)) k.toNatClampNeg (((am_laf (am_seg a b) 6 0 (x.2.2.2 2)) k.toNatClampNeg) ||| (am_seg a b)))))) rfl ?_
                refine am_Rr.ret (v := some (.int 1)) (x := (am_sB x 2 (vp_updL (am_laf (am_seg a b) 6 0 (x.2.2.2 2)) k.toNatClampNeg (((am_laf (am_seg a b) 6 0 (x.2.2.2 2)) k.toNatClampNeg) ||| (am_seg a b))))) rfl (by first | exact Or.inl rfl | exact Or.inr rfl | assumption) ?_
                exact Or.inl ⟨⟨by assumption, by assumption, by simp only [Int32.lt_iff_toInt_lt, Int32.le_iff_toInt_le, ← Int32.toInt_inj, am_nm9, am_nm6, am_nm4, am_nm3, am_nm2, am_nm1, am_n0, am_n1, am_n2, am_n3, am_n4, am_n5, am_n6, am_n7, am_n8, am_n9, am_n10, am_n11, am_n12, am_n20, am_n35, am_n36, am_n60, am_n96, am_n99, am_n255, am_n999] at *; omega, by simp only [Int32.lt_iff_toInt_lt, Int32.le_iff_toInt_le, ← Int32.toInt_inj, am_nm9, am_nm6, am_nm4, am_nm3, am_nm2, am_nm1, am_n0, am_n1, am_n2, am_n3, am_n4, am_n5, am_n6, am_n7, am_n8, am_n9, am_n10, am_n11, am_n12, am_n20, am_n35, am_n36, am_n60, am_n96, am_n99, am_n255, am_n999] at *; omega, by simp only [Int32.lt_iff_toInt_lt, Int32.le_iff_toInt_le, ← Int32.toInt_inj, am_nm9, am_nm6, am_nm4, am_nm3, am_nm2, am_nm1, am_n0, am_n1, am_n2, am_n3, am_n4, am_n5, am_n6, am_n7, am_n8, am_n9, am_n10, am_n11, am_n12, am_n20, am_n35, am_n36, am_n60, am_n96, am_n99, am_n255, am_n999] at *; omega, by simp only [Int32.lt_iff_toInt_lt, Int32.le_iff_toInt_le, ← Int32.toInt_inj, am_nm9, am_nm6, am_nm4, am_nm3, am_nm2, am_nm1, am_n0, am_n1, am_n2, am_n3, am_n4, am_n5, am_n6, am_n7, am_n8, am_n9, am_n10, am_n11, am_n12, am_n20, am_n35, am_n36, am_n60, am_n96, am_n99, am_n255, am_n999] at *; omega⟩, rfl, rfl⟩
              · refine am_Rr.go 4 (σ' := (if b < (x.1 36) then 59 else 57, [some (.ref 1), some (.int k), some (.int a), some (.int b), none, none, none], [], x)) rfl ?_
                refine am_Rr.ite (fun h_10 => ?_) (fun h_10 => ?_)
                · refine am_Rr.go 12 (σ' := (73, [some (.ref 1), some (.int k), some (.int a), some (.int b), some (.long ((1 <<< ((b + 1).toInt64 &&& 63)) - (1 <<< (a.toInt64 &&& 63)))), none, some (.int 0)], [], x)) rfl ?_
                  rw [show (0 : Int32) = nI 0 from rfl]
                  refine am_Rr.cong (x1 := am_sB x 2 (x.2.2.2 2)) (am_sB_self x 2).symm ?_
                  refine L_lay_1 _ k a b (am_seg a b) x _ 6 0 _ rfl ?_
                  refine am_Rr.go 4 (σ' := (111, [some (.ref 1), some (.int k), some (.int a), some (.int b), some (.long (am_seg a b)), none, some (.int 6)], [.int k, .ref 2, .int k, .ref 2], (am_sB x 2 (am_laf (am_seg a b) 6 0 (x.2.2.2 2))))) rfl ?_
                  refine am_Rr.chk (σ' := (112, [some (.ref 1), some (.int k), some (.int a), some (.int b), some (.long (am_seg a b)), none, some (.int 6)], [.long ((am_laf (am_seg a b) 6 0 (x.2.2.2 2)) k.toNatClampNeg), .int k, .ref 2], (am_sB x 2 (am_laf (am_seg a b) 6 0 (x.2.2.2 2))))) rfl (by rw [vp_in_iff]; simp only [Int32.lt_iff_toInt_lt, Int32.le_iff_toInt_le, ← Int32.toInt_inj, am_nm9, am_nm6, am_nm4, am_nm3, am_nm2, am_nm1, am_n0, am_n1, am_n2, am_n3, am_n4, am_n5, am_n6, am_n7, am_n8, am_n9, am_n10, am_n11, am_n12, am_n20, am_n35, am_n36, am_n60, am_n96, am_n99, am_n255, am_n999] at *; omega) ?_
                  refine am_Rr.go 2 (σ' := (115, [some (.ref 1), some (.int k), some (.int a), some (.int b), some (.long (am_seg a b)), none, some (.int 6)], [.long (((am_laf (am_seg a b) 6 0 (x.2.2.2 2)) k.toNatClampNeg) ||| (am_seg a b)), .int k, .ref 2], (am_sB x 2 (am_laf (am_seg a b) 6 0 (x.2.2.2 2))))) rfl ?_
                  refine am_Rr.chk (σ' := (116, [some (.ref 1), some (.int k), some (.int a), some (.int b), some (.long (am_seg a b)), none, some (.int 6)], [], (am_sB (am_sB x 2 (am_laf (am_seg a b) 6 0 (x.2.2.2 2))) 2 (vp_updL (am_laf (am_seg a b) 6 0 (x.2.2.2 2)) k.toNatClampNeg (((am_laf (am_seg a b) 6 0 (x.2.2.2 2)) k.toNatClampNeg) ||| (am_seg a b)))))) rfl (by rw [vp_in_iff]; simp only [Int32.lt_iff_toInt_lt, Int32.le_iff_toInt_le, ← Int32.toInt_inj, am_nm9, am_nm6, am_nm4, am_nm3, am_nm2, am_nm1, am_n0, am_n1, am_n2, am_n3, am_n4, am_n5, am_n6, am_n7, am_n8, am_n9, am_n10, am_n11, am_n12, am_n20, am_n35, am_n36, am_n60, am_n96, am_n99, am_n255, am_n999] at *; omega) ?_
                  refine am_Rr.cong (x1 := (am_sB x 2 (vp_updL (am_laf (am_seg a b) 6 0 (x.2.2.2 2)) k.toNatClampNeg (((am_laf (am_seg a b) 6 0 (x.2.2.2 2)) k.toNatClampNeg) ||| (am_seg a b))))) (am_sBB _ _ _ _) ?_
                  refine am_Rr.go 1 (σ' := (117, [some (.ref 1), some (.int k), some (.int a), some (.int b), some (.long (am_seg a b)), none, some (.int 6)], [.int 1], (am_sB x 2 (vp_updL (am_laf (am_seg a b) 6 0 (x.2.2.2 2)) k.toNatClampNeg (((am_laf (am_seg a b) 6 0 (x.2.2.2 2)) k.toNatClampNeg) ||| (am_seg a b)))))) rfl ?_
                  refine am_Rr.ret (v := some (.int 1)) (x := (am_sB x 2 (vp_updL (am_laf (am_seg a b) 6 0 (x.2.2.2 2)) k.toNatClampNeg (((am_laf (am_seg a b) 6 0 (x.2.2.2 2)) k.toNatClampNeg) ||| (am_seg a b))))) rfl (by first | exact Or.inl rfl | exact Or.inr rfl | assumption) ?_
                  exact Or.inl ⟨⟨by assumption, by assumption, by simp only [Int32.lt_iff_toInt_lt, Int32.le_iff_toInt_le, ← Int32.toInt_inj, am_nm9, am_nm6, am_nm4, am_nm3, am_nm2, am_nm1, am_n0, am_n1, am_n2, am_n3, am_n4, am_n5, am_n6, am_n7, am_n8, am_n9, am_n10, am_n11, am_n12, am_n20, am_n35, am_n36, am_n60, am_n96, am_n99, am_n255, am_n999] at *; omega, by simp only [Int32.lt_iff_toInt_lt, Int32.le_iff_toInt_le, ← Int32.toInt_inj, am_nm9, am_nm6, am_nm4, am_nm3, am_nm2, am_nm1, am_n0, am_n1, am_n2, am_n3, am_n4, am_n5, am_n6, am_n7, am_n8, am_n9, am_n10, am_n11, am_n12, am_n20, am_n35, am_n36, am_n60, am_n96, am_n99, am_n255, am_n999] at *; omega, by simp only [Int32.lt_iff_toInt_lt, Int32.le_iff_toInt_le, ← Int32.toInt_inj, am_nm9, am_nm6, am_nm4, am_nm3, am_nm2, am_nm1, am_n0, am_n1, am_n2, am_n3, am_n4, am_n5, am_n6, am_n7, am_n8, am_n9, am_n10, am_n11, am_n12, am_n20, am_n35, am_n36, am_n60, am_n96, am_n99, am_n255, am_n999] at *; omega, by simp only [Int32.lt_iff_toInt_lt, Int32.le_iff_toInt_le, ← Int32.toInt_inj, am_nm9, am_nm6, am_nm4, am_nm3, am_nm2, am_nm1, am_n0, am_n1, am_n2, am_n3, am_n4, am_n5, am_n6, am_n7, am_n8, am_n9, am_n10, am_n11, am_n12, am_n20, am_n35, am_n36, am_n60, am_n96, am_n99, am_n255, am_n999] at *; omega⟩, rfl, rfl⟩
                · refine am_Rr.go 1 (σ' := (58, [some (.ref 1), some (.int k), some (.int a), some (.int b), none, none, none], [.int 0], x)) rfl ?_
                  refine am_Rr.ret (v := some (.int 0)) (x := x) rfl (by first | exact Or.inl rfl | exact Or.inr rfl | assumption) ?_
                  first | exact Or.inr ⟨fun z => absurd z.1 (by assumption), rfl, rfl⟩ | exact Or.inr ⟨fun z => absurd z.2.1 (by assumption), rfl, rfl⟩ | exact Or.inr ⟨by rintro ⟨-, -, z1, z2, z3, z4⟩; simp only [Int32.lt_iff_toInt_lt, Int32.le_iff_toInt_le, ← Int32.toInt_inj, am_nm9, am_nm6, am_nm4, am_nm3, am_nm2, am_nm1, am_n0, am_n1, am_n2, am_n3, am_n4, am_n5, am_n6, am_n7, am_n8, am_n9, am_n10, am_n11, am_n12, am_n20, am_n35, am_n36, am_n60, am_n96, am_n99, am_n255, am_n999] at *; omega, rfl, rfl⟩
            · refine am_Rr.go 12 (σ' := (73, [some (.ref 1), some (.int k), some (.int a), some (.int b), some (.long ((1 <<< ((b + 1).toInt64 &&& 63)) - (1 <<< (a.toInt64 &&& 63)))), none, some (.int 0)], [], x)) rfl ?_
              rw [show (0 : Int32) = nI 0 from rfl]
              refine am_Rr.cong (x1 := am_sB x 2 (x.2.2.2 2)) (am_sB_self x 2).symm ?_
              refine L_lay_1 _ k a b (am_seg a b) x _ 6 0 _ rfl ?_
              refine am_Rr.go 4 (σ' := (111, [some (.ref 1), some (.int k), some (.int a), some (.int b), some (.long (am_seg a b)), none, some (.int 6)], [.int k, .ref 2, .int k, .ref 2], (am_sB x 2 (am_laf (am_seg a b) 6 0 (x.2.2.2 2))))) rfl ?_
              refine am_Rr.chk (σ' := (112, [some (.ref 1), some (.int k), some (.int a), some (.int b), some (.long (am_seg a b)), none, some (.int 6)], [.long ((am_laf (am_seg a b) 6 0 (x.2.2.2 2)) k.toNatClampNeg), .int k, .ref 2], (am_sB x 2 (am_laf (am_seg a b) 6 0 (x.2.2.2 2))))) rfl (by rw [vp_in_iff]; simp only [Int32.lt_iff_toInt_lt, Int32.le_iff_toInt_le, ← Int32.toInt_inj, am_nm9, am_nm6, am_nm4, am_nm3, am_nm2, am_nm1, am_n0, am_n1, am_n2, am_n3, am_n4, am_n5, am_n6, am_n7, am_n8, am_n9, am_n10, am_n11, am_n12, am_n20, am_n35, am_n36, am_n60, am_n96, am_n99, am_n255, am_n999] at *; omega) ?_
              refine am_Rr.go 2 (σ' := (115, [some (.ref 1), some (.int k), some (.int a), some (.int b), some (.long (am_seg a b)), none, some (.int 6)], [.long (((am_laf (am_seg a b) 6 0 (x.2.2.2 2)) k.toNatClampNeg) ||| (am_seg a b)), .int k, .ref 2], (am_sB x 2 (am_laf (am_seg a b) 6 0 (x.2.2.2 2))))) rfl ?_
              refine am_Rr.chk (σ' := (116, [some (.ref 1), some (.int k), some (.int a), some (.int b), some (.long (am_seg a b)), none, some (.int 6)], [], (am_sB (am_sB x 2 (am_laf (am_seg a b) 6 0 (x.2.2.2 2))) 2 (vp_updL (am_laf (am_seg a b) 6 0 (x.2.2.2 2)) k.toNatClampNeg (((am_laf (am_seg a b) 6 0 (x.2.2.2 2)) k.toNatClampNeg) ||| (am_seg a b)))))) rfl (by rw [vp_in_iff]; simp only [Int32.lt_iff_toInt_lt, Int32.le_iff_toInt_le, ← Int32.toInt_inj, am_nm9, am_nm6, am_nm4, am_nm3, am_nm2, am_nm1, am_n0, am_n1, am_n2, am_n3, am_n4, am_n5, am_n6, am_n7, am_n8, am_n9, am_n10, am_n11, am_n12, am_n20, am_n35, am_n36, am_n60, am_n96, am_n99, am_n255, am_n999] at *; omega) ?_
              refine am_Rr.cong (x1 := (am_sB x 2 (vp_updL (am_laf (am_seg a b) 6 0 (x.2.2.2 2)) k.toNatClampNeg (((am_laf (am_seg a b) 6 0 (x.2.2.2 2)) k.toNatClampNeg) ||| (am_seg a b))))) (am_sBB _ _ _ _) ?_
              refine am_Rr.go 1 (σ' := (117, [some (.ref 1), some (.int k), some (.int a), some (.int b), some (.long (am_seg a b)), none, some (.int 6)], [.int 1], (am_sB x 2 (vp_updL (am_laf (am_seg a b) 6 0 (x.2.2.2 2)) k.toNatClampNeg (((am_laf (am_seg a b) 6 0 (x.2.2.2 2)) k.toNatClampNeg) ||| (am_seg a b)))))) rfl ?_
              refine am_Rr.ret (v := some (.int 1)) (x := (am_sB x 2 (vp_updL (am_laf (am_seg a b) 6 0 (x.2.2.2 2)) k.toNatClampNeg (((am_laf (am_seg a b) 6 0 (x.2.2.2 2)) k.toNatClampNeg) ||| (am_seg a b))))) rfl (by first | exact Or.inl rfl | exact Or.inr rfl | assumption) ?_
              exact Or.inl ⟨⟨by assumption, by assumption, by simp only [Int32.lt_iff_toInt_lt, Int32.le_iff_toInt_le, ← Int32.toInt_inj, am_nm9, am_nm6, am_nm4, am_nm3, am_nm2, am_nm1, am_n0, am_n1, am_n2, am_n3, am_n4, am_n5, am_n6, am_n7, am_n8, am_n9, am_n10, am_n11, am_n12, am_n20, am_n35, am_n36, am_n60, am_n96, am_n99, am_n255, am_n999] at *; omega, by simp only [Int32.lt_iff_toInt_lt, Int32.le_iff_toInt_le, ← Int32.toInt_inj, am_nm9, am_nm6, am_nm4, am_nm3, am_nm2, am_nm1, am_n0, am_n1, am_n2, am_n3, am_n4, am_n5, am_n6, am_n7, am_n8, am_n9, am_n10, am_n11, am_n12, am_n20, am_n35, am_n36, am_n60, am_n96, am_n99, am_n255, am_n999] at *; omega, by simp only [Int32.lt_iff_toInt_lt, Int32.le_iff_toInt_le, ← Int32.toInt_inj, am_nm9, am_nm6, am_nm4, am_nm3, am_nm2, am_nm1, am_n0, am_n1, am_n2, am_n3, am_n4, am_n5, am_n6, am_n7, am_n8, am_n9, am_n10, am_n11, am_n12, am_n20, am_n35, am_n36, am_n60, am_n96, am_n99, am_n255, am_n999] at *; omega, by simp only [Int32.lt_iff_toInt_lt, Int32.le_iff_toInt_le, ← Int32.toInt_inj, am_nm9, am_nm6, am_nm4, am_nm3, am_nm2, am_nm1, am_n0, am_n1, am_n2, am_n3, am_n4, am_n5, am_n6, am_n7, am_n8, am_n9, am_n10, am_n11, am_n12, am_n20, am_n35, am_n36, am_n60, am_n96, am_n99, am_n255, am_n999] at *; omega⟩, rfl, rfl⟩
          · refine am_Rr.go 1 (σ' := (35, [some (.ref 1), some (.int k), some (.int a), some (.int b), none, none, none], [.int 0], x)) rfl ?_
            refine am_Rr.ret (v := some (.int 0)) (x := x) rfl (by first | exact Or.inl rfl | exact Or.inr rfl | assumption) ?_
            first | exact Or.inr ⟨fun z => absurd z.1 (by assumption), rfl, rfl⟩ | exact Or.inr ⟨fun z => absurd z.2.1 (by assumption), rfl, rfl⟩ | exact Or.inr ⟨by rintro ⟨-, -, z1, z2, z3, z4⟩; simp only [Int32.lt_iff_toInt_lt, Int32.le_iff_toInt_le, ← Int32.toInt_inj, am_nm9, am_nm6, am_nm4, am_nm3, am_nm2, am_nm1, am_n0, am_n1, am_n2, am_n3, am_n4, am_n5, am_n6, am_n7, am_n8, am_n9, am_n10, am_n11, am_n12, am_n20, am_n35, am_n36, am_n60, am_n96, am_n99, am_n255, am_n999] at *; omega, rfl, rfl⟩
      · refine am_Rr.go 1 (σ' := (20, [some (.ref 1), some (.int k), some (.int a), some (.int b), none, none, none], [.int 0], x)) rfl ?_
        refine am_Rr.ret (v := some (.int 0)) (x := x) rfl (by first | exact Or.inl rfl | exact Or.inr rfl | assumption) ?_
        first | exact Or.inr ⟨fun z => absurd z.1 (by assumption), rfl, rfl⟩ | exact Or.inr ⟨fun z => absurd z.2.1 (by assumption), rfl, rfl⟩ | exact Or.inr ⟨by rintro ⟨-, -, z1, z2, z3, z4⟩; simp only [Int32.lt_iff_toInt_lt, Int32.le_iff_toInt_le, ← Int32.toInt_inj, am_nm9, am_nm6, am_nm4, am_nm3, am_nm2, am_nm1, am_n0, am_n1, am_n2, am_n3, am_n4, am_n5, am_n6, am_n7, am_n8, am_n9, am_n10, am_n11, am_n12, am_n20, am_n35, am_n36, am_n60, am_n96, am_n99, am_n255, am_n999] at *; omega, rfl, rfl⟩
    · show am_Rr _ _ (11, [some (.ref 1), some (.int k), some (.int a), some (.int b), none, none, none], [.int 0], x) _
      refine am_Rr.go 2 (σ' := (20, [some (.ref 1), some (.int k), some (.int a), some (.int b), none, none, none], [.int 0], x)) rfl ?_
      refine am_Rr.ret (v := some (.int 0)) (x := x) rfl (by first | exact Or.inl rfl | exact Or.inr rfl | assumption) ?_
      first | exact Or.inr ⟨fun z => absurd z.1 (by assumption), rfl, rfl⟩ | exact Or.inr ⟨fun z => absurd z.2.1 (by assumption), rfl, rfl⟩ | exact Or.inr ⟨by rintro ⟨-, -, z1, z2, z3, z4⟩; simp only [Int32.lt_iff_toInt_lt, Int32.le_iff_toInt_le, ← Int32.toInt_inj, am_nm9, am_nm6, am_nm4, am_nm3, am_nm2, am_nm1, am_n0, am_n1, am_n2, am_n3, am_n4, am_n5, am_n6, am_n7, am_n8, am_n9, am_n10, am_n11, am_n12, am_n20, am_n35, am_n36, am_n60, am_n96, am_n99, am_n255, am_n999] at *; omega, rfl, rfl⟩
  · show am_Rr _ _ (4, [some (.ref 1), some (.int k), some (.int a), some (.int b), none, none, none], [.int 0], x) _
    refine am_Rr.go 2 (σ' := (20, [some (.ref 1), some (.int k), some (.int a), some (.int b), none, none, none], [.int 0], x)) rfl ?_
    refine am_Rr.ret (v := some (.int 0)) (x := x) rfl (by first | exact Or.inl rfl | exact Or.inr rfl | assumption) ?_
    first | exact Or.inr ⟨fun z => absurd z.1 (by assumption), rfl, rfl⟩ | exact Or.inr ⟨fun z => absurd z.2.1 (by assumption), rfl, rfl⟩ | exact Or.inr ⟨by rintro ⟨-, -, z1, z2, z3, z4⟩; simp only [Int32.lt_iff_toInt_lt, Int32.le_iff_toInt_le, ← Int32.toInt_inj, am_nm9, am_nm6, am_nm4, am_nm3, am_nm2, am_nm1, am_n0, am_n1, am_n2, am_n3, am_n4, am_n5, am_n6, am_n7, am_n8, am_n9, am_n10, am_n11, am_n12, am_n20, am_n35, am_n36, am_n60, am_n96, am_n99, am_n255, am_n999] at *; omega, rfl, rfl⟩
theorem L_lay_5 (d : Nat) (k a b : Int32) (w : Int64) (x : am_X) (post : Option Value → am_X → Prop) : ∀ (n i : Nat) (f : Nat → Int64), i + n = 6 → am_Rr d kX1_lay (105, [some (.ref 5), some (.int k), some (.int a), some (.int b), some (.long w), none, some (.int 6)], [], am_sB x 6 (am_laf w n i f)) post → am_Rr d kX1_lay (73, [some (.ref 5), some (.int k), some (.int a), some (.int b), some (.long w), none, some (.int (nI i))], [], am_sB x 6 f) post := by
  intro n
  induction n with
  | zero =>
    intro i f h hk
    have hI : (nI i).toInt = (i : Int) := nI_toInt (by omega)
    refine am_Rr.go 5 (σ' := (if (6 : Int32) ≤ (nI i) then 105 else 83, [some (.ref 5), some (.int k), some (.int a), some (.int b), some (.long w), none, some (.int (nI i))], [], (am_sB x 6 f))) rfl ?_
    refine am_Rr.ite (fun h_1 => ?_) (fun h_1 => ?_)
    · have e : i = 6 := by omega
      subst e
      exact hk
    · exfalso
      simp only [Int32.lt_iff_toInt_lt, Int32.le_iff_toInt_le, ← Int32.toInt_inj, am_nm9, am_nm6, am_nm4, am_nm3, am_nm2, am_nm1, am_n0, am_n1, am_n2, am_n3, am_n4, am_n5, am_n6, am_n7, am_n8, am_n9, am_n10, am_n11, am_n12, am_n20, am_n35, am_n36, am_n60, am_n96, am_n99, am_n255, am_n999] at *; omega
  | succ n ih =>
    intro i f h hk
    have hcl : (nI i).toNatClampNeg = i := am_cln (by omega)
    have hI : (nI i).toInt = (i : Int) := nI_toInt (by omega)
    refine am_Rr.go 5 (σ' := (if (6 : Int32) ≤ (nI i) then 105 else 83, [some (.ref 5), some (.int k), some (.int a), some (.int b), some (.long w), none, some (.int (nI i))], [], (am_sB x 6 f))) rfl ?_
    refine am_Rr.ite (fun h_1 => ?_) (fun h_1 => ?_)
    · exfalso
      simp only [Int32.lt_iff_toInt_lt, Int32.le_iff_toInt_le, ← Int32.toInt_inj, am_nm9, am_nm6, am_nm4, am_nm3, am_nm2, am_nm1, am_n0, am_n1, am_n2, am_n3, am_n4, am_n5, am_n6, am_n7, am_n8, am_n9, am_n10, am_n11, am_n12, am_n20, am_n35, am_n36, am_n60, am_n96, am_n99, am_n255, am_n999] at *; omega
    · refine am_Rr.go 4 (σ' := (90, [some (.ref 5), some (.int k), some (.int a), some (.int b), some (.long w), none, some (.int (nI i))], [.int (nI i), .ref 6, .int (nI i), .ref 6], (am_sB x 6 f))) rfl ?_
      refine am_Rr.chk (σ' := (91, [some (.ref 5), some (.int k), some (.int a), some (.int b), some (.long w), none, some (.int (nI i))], [.long (f (nI i).toNatClampNeg), .int (nI i), .ref 6], (am_sB x 6 f))) rfl (by rw [vp_in_iff]; omega) ?_
      refine am_Rr.go 4 (σ' := (98, [some (.ref 5), some (.int k), some (.int a), some (.int b), some (.long w), none, some (.int (nI i))], [.long ((f (nI i).toNatClampNeg) &&& (w ^^^ (-1))), .int (nI i), .ref 6], (am_sB x 6 f))) rfl ?_
      refine am_Rr.chk (σ' := (99, [some (.ref 5), some (.int k), some (.int a), some (.int b), some (.long w), none, some (.int (nI i))], [], (am_sB (am_sB x 6 f) 6 (vp_updL f ((nI i).toNatClampNeg) ((f (nI i).toNatClampNeg) &&& (w ^^^ (-1))))))) rfl (by rw [vp_in_iff]; omega) ?_
      refine am_Rr.cong (x1 := (am_sB x 6 (vp_updL f ((nI i).toNatClampNeg) ((f (nI i).toNatClampNeg) &&& (w ^^^ (-1)))))) (am_sBB _ _ _ _) ?_
      refine am_Rr.go 2 (σ' := (73, [some (.ref 5), some (.int k), some (.int a), some (.int b), some (.long w), none, some (.int ((nI i) + 1))], [], (am_sB x 6 (vp_updL f ((nI i).toNatClampNeg) ((f (nI i).toNatClampNeg) &&& (w ^^^ (-1))))))) rfl ?_
      rw [am_inc, hcl]
      exact ih (i + 1) _ (by omega) hk
def am_lay5 (x : am_X) (k a b : Int32) : am_X := am_sB x 6 (vp_updL (am_laf (am_seg a b) 6 0 (x.2.2.2 6)) k.toNatClampNeg (am_laf (am_seg a b) 6 0 (x.2.2.2 6) k.toNatClampNeg ||| am_seg a b))
theorem S_lay_5 (d : Nat) (k a b : Int32) (x : am_X) : am_T (d + 3) mX1_lay [.ref 5, .int k, .int a, .int b] x (fun r x' => ((am_sq a ∧ am_sq b ∧ a.toInt ≤ b.toInt ∧ 0 ≤ k.toInt ∧ k.toInt < 6 ∧ ¬ (k.toInt = 1 ∧ a.toInt ≤ (x.1 164).toInt ∧ (x.1 164).toInt ≤ b.toInt)) ∧ r = some (.int 1) ∧ am_lay5 x k a b = x') ∨ (¬ (am_sq a ∧ am_sq b ∧ a.toInt ≤ b.toInt ∧ 0 ≤ k.toInt ∧ k.toInt < 6 ∧ ¬ (k.toInt = 1 ∧ a.toInt ≤ (x.1 164).toInt ∧ (x.1 164).toInt ≤ b.toInt)) ∧ r = some (.int 0) ∧ x = x')) := by
  refine am_T.of rfl ?_
  show am_Rr _ kX1_lay (0, [some (.ref 5), some (.int k), some (.int a), some (.int b), none, none, none], [], x) _
  refine am_Rr.go 1 (σ' := (1, [some (.ref 5), some (.int k), some (.int a), some (.int b), none, none, none], [.int a], x)) rfl ?_
  refine am_Rr.call (pc := 4) (ls := [some (.ref 5), some (.int k), some (.int a), some (.int b), none, none, none]) (st := []) rfl (S_isSquare d a x) ?_
  rintro _ _ ⟨rfl, (⟨rfl, b_1⟩ | ⟨rfl, b_1⟩)⟩
  · show am_Rr _ _ (4, [some (.ref 5), some (.int k), some (.int a), some (.int b), none, none, none], [.int 1], x) _
    refine am_Rr.go 2 (σ' := (8, [some (.ref 5), some (.int k), some (.int a), some (.int b), none, none, none], [.int b], x)) rfl ?_
    refine am_Rr.call (pc := 11) (ls := [some (.ref 5), some (.int k), some (.int a), some (.int b), none, none, none]) (st := []) rfl (S_isSquare d b x) ?_
    rintro _ _ ⟨rfl, (⟨rfl, b_3⟩ | ⟨rfl, b_3⟩)⟩
    · show am_Rr _ _ (11, [some (.ref 5), some (.int k), some (.int a), some (.int b), none, none, none], [.int 1], x) _
      refine am_Rr.go 4 (σ' := (if a ≤ b then 21 else 19, [some (.ref 5), some (.int k), some (.int a), some (.int b), none, none, none], [], x)) rfl ?_
      refine am_Rr.ite (fun h_5 => ?_) (fun h_5 => ?_)
      · refine am_Rr.go 2 (σ' := (if k < 0 then 34 else 25, [some (.ref 5), some (.int k), some (.int a), some (.int b), none, none, none], [], x)) rfl ?_
        refine am_Rr.ite (fun h_6 => ?_) (fun h_6 => ?_)
        · refine am_Rr.go 1 (σ' := (35, [some (.ref 5), some (.int k), some (.int a), some (.int b), none, none, none], [.int 0], x)) rfl ?_
          refine am_Rr.ret (v := some (.int 0)) (x := x) rfl (by first | exact Or.inl rfl | exact Or.inr rfl | assumption) ?_
          first | exact Or.inr ⟨fun z => absurd z.1 (by assumption), rfl, rfl⟩ | exact Or.inr ⟨fun z => absurd z.2.1 (by assumption), rfl, rfl⟩ | exact Or.inr ⟨by rintro ⟨-, -, z1, z2, z3, z4⟩; simp only [Int32.lt_iff_toInt_lt, Int32.le_iff_toInt_le, ← Int32.toInt_inj, am_nm9, am_nm6, am_nm4, am_nm3, am_nm2, am_nm1, am_n0, am_n1, am_n2, am_n3, am_n4, am_n5, am_n6, am_n7, am_n8, am_n9, am_n10, am_n11, am_n12, am_n20, am_n35, am_n36, am_n60, am_n96, am_n99, am_n255, am_n999] at *; omega, rfl, rfl⟩
        · refine am_Rr.go 5 (σ' := (if k < 6 then 36 else 34, [some (.ref 5), some (.int k), some (.int a), some (.int b), none, none, none], [], x)) rfl ?_
          refine am_Rr.ite (fun h_7 => ?_) (fun h_7 => ?_)
          · refine am_Rr.go 3 (σ' := (if k = 1 then 41 else 59, [some (.ref 5), some (.int k), some (.int a), some (.int b), none, none, none], [], x)) rfl ?_
            refine am_Rr.ite (fun h_8 => ?_) (fun h_8 => ?_)
            · refine am_Rr.go 4 (σ' := (if (x.1 164) < a then 59 else 49, [some (.ref 5), some (.int k), some (.int a), some (.int b), none, none, none], [], x)) rfl ?_
              refine am_Rr.ite (fun h_9 => ?_) (fun h_9 => ?_)
              · refine am_Rr.go 12 (σ' := (73, [some (.ref 5), some (.int k), some (.int a), some (.int b), some (.long ((1 <<< ((b + 1).toInt64 &&& 63)) - (1 <<< (a.toInt64 &&& 63)))), none, some (.int 0)], [], x)) rfl ?_
                rw [show (0 : Int32) = nI 0 from rfl]
                refine am_Rr.cong (x1 := am_sB x 6 (x.2.2.2 6)) (am_sB_self x 6).symm ?_
                refine L_lay_5 _ k a b (am_seg a b) x _ 6 0 _ rfl ?_
                refine am_Rr.go 4 (σ' := (111, [some (.ref 5), some (.int k), some (.int a), some (.int b), some (.long (am_seg a b)), none, some (.int 6)], [.int k, .ref 6, .int k, .ref 6], (am_sB x 6 (am_laf (am_seg a b) 6 0 (x.2.2.2 6))))) rfl ?_
                refine am_Rr.chk (σ' := (112, [some (.ref 5), some (.int k), some (.int a), some (.int b), some (.long (am_seg a b)), none, some (.int 6)], [.long ((am_laf (am_seg a b) 6 0 (x.2.2.2 6)) k.toNatClampNeg), .int k, .ref 6], (am_sB x 6 (am_laf (am_seg a b) 6 0 (x.2.2.2 6))))) rfl (by rw [vp_in_iff]; simp only [Int32.lt_iff_toInt_lt, Int32.le_iff_toInt_le, ← Int32.toInt_inj, am_nm9, am_nm6, am_nm4, am_nm3, am_nm2, am_nm1, am_n0, am_n1, am_n2, am_n3, am_n4, am_n5, am_n6, am_n7, am_n8, am_n9, am_n10, am_n11, am_n12, am_n20, am_n35, am_n36, am_n60, am_n96, am_n99, am_n255, am_n999] at *; omega) ?_
                refine am_Rr.go 2 (σ' := (115, [some (.ref 5), some (.int k), some (.int a), some (.int b), some (.long (am_seg a b)), none, some (.int 6)], [.long (((am_laf (am_seg a b) 6 0 (x.2.2.2 6)) k.toNatClampNeg) ||| (am_seg a b)), .int k, .ref 6], (am_sB x 6 (am_laf (am_seg a b) 6 0 (x.2.2.2 6))))) rfl ?_
                refine am_Rr.chk (σ' := (116, [some (.ref 5), some (.int k), some (.int a), some (.int b), some (.long (am_seg a b)), none, some (.int 6)], [], (am_sB (am_sB x 6 (am_laf (am_seg a b) 6 0 (x.2.2.2 6))) 6 (vp_updL (am_laf (am_seg a b) 6 0 (x.2.2.2 6)) k.toNatClampNeg (((am_laf (am_seg a b) 6 0 (x.2.2.2 6)) k.toNatClampNeg) ||| (am_seg a b)))))) rfl (by rw [vp_in_iff]; simp only [Int32.lt_iff_toInt_lt, Int32.le_iff_toInt_le, ← Int32.toInt_inj, am_nm9, am_nm6, am_nm4, am_nm3, am_nm2, am_nm1, am_n0, am_n1, am_n2, am_n3, am_n4, am_n5, am_n6, am_n7, am_n8, am_n9, am_n10, am_n11, am_n12, am_n20, am_n35, am_n36, am_n60, am_n96, am_n99, am_n255, am_n999] at *; omega) ?_
                refine am_Rr.cong (x1 := (am_sB x 6 (vp_updL (am_laf (am_seg a b) 6 0 (x.2.2.2 6)) k.toNatClampNeg (((am_laf (am_seg a b) 6 0 (x.2.2.2 6)) k.toNatClampNeg) ||| (am_seg a b))))) (am_sBB _ _ _ _) ?_
                refine am_Rr.go 1 (σ' := (117, [some (.ref 5), some (.int k), some (.int a), some (.int b), some (.long (am_seg a b)), none, some (.int 6)], [.int 1], (am_sB x 6 (vp_updL (am_laf (am_seg a b) 6 0 (x.2.2.2 6)) k.toNatClampNeg (((am_laf (am_seg a b) 6 0 (x.2.2.2 6)) k.toNatClampNeg) ||| (am_seg a b)))))) rfl ?_
                refine am_Rr.ret (v := some (.int 1)) (x := (am_sB x 6 (vp_updL (am_laf (am_seg a b) 6 0 (x.2.2.2 6)) k.toNatClampNeg (((am_laf (am_seg a b) 6 0 (x.2.2.2 6)) k.toNatClampNeg) ||| (am_seg a b))))) rfl (by first | exact Or.inl rfl | exact Or.inr rfl | assumption) ?_
                exact Or.inl ⟨⟨by assumption, by assumption, by simp only [Int32.lt_iff_toInt_lt, Int32.le_iff_toInt_le, ← Int32.toInt_inj, am_nm9, am_nm6, am_nm4, am_nm3, am_nm2, am_nm1, am_n0, am_n1, am_n2, am_n3, am_n4, am_n5, am_n6, am_n7, am_n8, am_n9, am_n10, am_n11, am_n12, am_n20, am_n35, am_n36, am_n60, am_n96, am_n99, am_n255, am_n999] at *; omega, by simp only [Int32.lt_iff_toInt_lt, Int32.le_iff_toInt_le, ← Int32.toInt_inj, am_nm9, am_nm6, am_nm4, am_nm3, am_nm2, am_nm1, am_n0, am_n1, am_n2, am_n3, am_n4, am_n5, am_n6, am_n7, am_n8, am_n9, am_n10, am_n11, am_n12, am_n20, am_n35, am_n36, am_n60, am_n96, am_n99, am_n255, am_n999] at *; omega, by simp only [Int32.lt_iff_toInt_lt, Int32.le_iff_toInt_le, ← Int32.toInt_inj, am_nm9, am_nm6, am_nm4, am_nm3, am_nm2, am_nm1, am_n0, am_n1, am_n2, am_n3, am_n4, am_n5, am_n6, am_n7, am_n8, am_n9, am_n10, am_n11, am_n12, am_n20, am_n35, am_n36, am_n60, am_n96, am_n99, am_n255, am_n999] at *; omega, by simp only [Int32.lt_iff_toInt_lt, Int32.le_iff_toInt_le, ← Int32.toInt_inj, am_nm9, am_nm6, am_nm4, am_nm3, am_nm2, am_nm1, am_n0, am_n1, am_n2, am_n3, am_n4, am_n5, am_n6, am_n7, am_n8, am_n9, am_n10, am_n11, am_n12, am_n20, am_n35, am_n36, am_n60, am_n96, am_n99, am_n255, am_n999] at *; omega⟩, rfl, rfl⟩
              · refine am_Rr.go 4 (σ' := (if b < (x.1 164) then 59 else 57, [some (.ref 5), some (.int k), some (.int a), some (.int b), none, none, none], [], x)) rfl ?_
                refine am_Rr.ite (fun h_10 => ?_) (fun h_10 => ?_)
                · refine am_Rr.go 12 (σ' := (73, [some (.ref 5), some (.int k), some (.int a), some (.int b), some (.long ((1 <<< ((b + 1).toInt64 &&& 63)) - (1 <<< (a.toInt64 &&& 63)))), none, some (.int 0)], [], x)) rfl ?_
                  rw [show (0 : Int32) = nI 0 from rfl]
                  refine am_Rr.cong (x1 := am_sB x 6 (x.2.2.2 6)) (am_sB_self x 6).symm ?_
                  refine L_lay_5 _ k a b (am_seg a b) x _ 6 0 _ rfl ?_
                  refine am_Rr.go 4 (σ' := (111, [some (.ref 5), some (.int k), some (.int a), some (.int b), some (.long (am_seg a b)), none, some (.int 6)], [.int k, .ref 6, .int k, .ref 6], (am_sB x 6 (am_laf (am_seg a b) 6 0 (x.2.2.2 6))))) rfl ?_
                  refine am_Rr.chk (σ' := (112, [some (.ref 5), some (.int k), some (.int a), some (.int b), some (.long (am_seg a b)), none, some (.int 6)], [.long ((am_laf (am_seg a b) 6 0 (x.2.2.2 6)) k.toNatClampNeg), .int k, .ref 6], (am_sB x 6 (am_laf (am_seg a b) 6 0 (x.2.2.2 6))))) rfl (by rw [vp_in_iff]; simp only [Int32.lt_iff_toInt_lt, Int32.le_iff_toInt_le, ← Int32.toInt_inj, am_nm9, am_nm6, am_nm4, am_nm3, am_nm2, am_nm1, am_n0, am_n1, am_n2, am_n3, am_n4, am_n5, am_n6, am_n7, am_n8, am_n9, am_n10, am_n11, am_n12, am_n20, am_n35, am_n36, am_n60, am_n96, am_n99, am_n255, am_n999] at *; omega) ?_
                  refine am_Rr.go 2 (σ' := (115, [some (.ref 5), some (.int k), some (.int a), some (.int b), some (.long (am_seg a b)), none, some (.int 6)], [.long (((am_laf (am_seg a b) 6 0 (x.2.2.2 6)) k.toNatClampNeg) ||| (am_seg a b)), .int k, .ref 6], (am_sB x 6 (am_laf (am_seg a b) 6 0 (x.2.2.2 6))))) rfl ?_
                  refine am_Rr.chk (σ' := (116, [some (.ref 5), some (.int k), some (.int a), some (.int b), some (.long (am_seg a b)), none, some (.int 6)], [], (am_sB (am_sB x 6 (am_laf (am_seg a b) 6 0 (x.2.2.2 6))) 6 (vp_updL (am_laf (am_seg a b) 6 0 (x.2.2.2 6)) k.toNatClampNeg (((am_laf (am_seg a b) 6 0 (x.2.2.2 6)) k.toNatClampNeg) ||| (am_seg a b)))))) rfl (by rw [vp_in_iff]; simp only [Int32.lt_iff_toInt_lt, Int32.le_iff_toInt_le, ← Int32.toInt_inj, am_nm9, am_nm6, am_nm4, am_nm3, am_nm2, am_nm1, am_n0, am_n1, am_n2, am_n3, am_n4, am_n5, am_n6, am_n7, am_n8, am_n9, am_n10, am_n11, am_n12, am_n20, am_n35, am_n36, am_n60, am_n96, am_n99, am_n255, am_n999] at *; omega) ?_
                  refine am_Rr.cong (x1 := (am_sB x 6 (vp_updL (am_laf (am_seg a b) 6 0 (x.2.2.2 6)) k.toNatClampNeg (((am_laf (am_seg a b) 6 0 (x.2.2.2 6)) k.toNatClampNeg) ||| (am_seg a b))))) (am_sBB _ _ _ _) ?_
                  refine am_Rr.go 1 (σ' := (117, [some (.ref 5), some (.int k), some (.int a), some (.int b), some (.long (am_seg a b)), none, some (.int 6)], [.int 1], (am_sB x 6 (vp_updL (am_laf (am_seg a b) 6 0 (x.2.2.2 6)) k.toNatClampNeg (((am_laf (am_seg a b) 6 0 (x.2.2.2 6)) k.toNatClampNeg) ||| (am_seg a b)))))) rfl ?_
                  refine am_Rr.ret (v := some (.int 1)) (x := (am_sB x 6 (vp_updL (am_laf (am_seg a b) 6 0 (x.2.2.2 6)) k.toNatClampNeg (((am_laf (am_seg a b) 6 0 (x.2.2.2 6)) k.toNatClampNeg) ||| (am_seg a b))))) rfl (by first | exact Or.inl rfl | exact Or.inr rfl | assumption) ?_
                  exact Or.inl ⟨⟨by assumption, by assumption, by simp only [Int32.lt_iff_toInt_lt, Int32.le_iff_toInt_le, ← Int32.toInt_inj, am_nm9, am_nm6, am_nm4, am_nm3, am_nm2, am_nm1, am_n0, am_n1, am_n2, am_n3, am_n4, am_n5, am_n6, am_n7, am_n8, am_n9, am_n10, am_n11, am_n12, am_n20, am_n35, am_n36, am_n60, am_n96, am_n99, am_n255, am_n999] at *; omega, by simp only [Int32.lt_iff_toInt_lt, Int32.le_iff_toInt_le, ← Int32.toInt_inj, am_nm9, am_nm6, am_nm4, am_nm3, am_nm2, am_nm1, am_n0, am_n1, am_n2, am_n3, am_n4, am_n5, am_n6, am_n7, am_n8, am_n9, am_n10, am_n11, am_n12, am_n20, am_n35, am_n36, am_n60, am_n96, am_n99, am_n255, am_n999] at *; omega, by simp only [Int32.lt_iff_toInt_lt, Int32.le_iff_toInt_le, ← Int32.toInt_inj, am_nm9, am_nm6, am_nm4, am_nm3, am_nm2, am_nm1, am_n0, am_n1, am_n2, am_n3, am_n4, am_n5, am_n6, am_n7, am_n8, am_n9, am_n10, am_n11, am_n12, am_n20, am_n35, am_n36, am_n60, am_n96, am_n99, am_n255, am_n999] at *; omega, by simp only [Int32.lt_iff_toInt_lt, Int32.le_iff_toInt_le, ← Int32.toInt_inj, am_nm9, am_nm6, am_nm4, am_nm3, am_nm2, am_nm1, am_n0, am_n1, am_n2, am_n3, am_n4, am_n5, am_n6, am_n7, am_n8, am_n9, am_n10, am_n11, am_n12, am_n20, am_n35, am_n36, am_n60, am_n96, am_n99, am_n255, am_n999] at *; omega⟩, rfl, rfl⟩
                · refine am_Rr.go 1 (σ' := (58, [some (.ref 5), some (.int k), some (.int a), some (.int b), none, none, none], [.int 0], x)) rfl ?_
                  refine am_Rr.ret (v := some (.int 0)) (x := x) rfl (by first | exact Or.inl rfl | exact Or.inr rfl | assumption) ?_
                  first | exact Or.inr ⟨fun z => absurd z.1 (by assumption), rfl, rfl⟩ | exact Or.inr ⟨fun z => absurd z.2.1 (by assumption), rfl, rfl⟩ | exact Or.inr ⟨by rintro ⟨-, -, z1, z2, z3, z4⟩; simp only [Int32.lt_iff_toInt_lt, Int32.le_iff_toInt_le, ← Int32.toInt_inj, am_nm9, am_nm6, am_nm4, am_nm3, am_nm2, am_nm1, am_n0, am_n1, am_n2, am_n3, am_n4, am_n5, am_n6, am_n7, am_n8, am_n9, am_n10, am_n11, am_n12, am_n20, am_n35, am_n36, am_n60, am_n96, am_n99, am_n255, am_n999] at *; omega, rfl, rfl⟩
            · refine am_Rr.go 12 (σ' := (73, [some (.ref 5), some (.int k), some (.int a), some (.int b), some (.long ((1 <<< ((b + 1).toInt64 &&& 63)) - (1 <<< (a.toInt64 &&& 63)))), none, some (.int 0)], [], x)) rfl ?_
              rw [show (0 : Int32) = nI 0 from rfl]
              refine am_Rr.cong (x1 := am_sB x 6 (x.2.2.2 6)) (am_sB_self x 6).symm ?_
              refine L_lay_5 _ k a b (am_seg a b) x _ 6 0 _ rfl ?_
              refine am_Rr.go 4 (σ' := (111, [some (.ref 5), some (.int k), some (.int a), some (.int b), some (.long (am_seg a b)), none, some (.int 6)], [.int k, .ref 6, .int k, .ref 6], (am_sB x 6 (am_laf (am_seg a b) 6 0 (x.2.2.2 6))))) rfl ?_
              refine am_Rr.chk (σ' := (112, [some (.ref 5), some (.int k), some (.int a), some (.int b), some (.long (am_seg a b)), none, some (.int 6)], [.long ((am_laf (am_seg a b) 6 0 (x.2.2.2 6)) k.toNatClampNeg), .int k, .ref 6], (am_sB x 6 (am_laf (am_seg a b) 6 0 (x.2.2.2 6))))) rfl (by rw [vp_in_iff]; simp only [Int32.lt_iff_toInt_lt, Int32.le_iff_toInt_le, ← Int32.toInt_inj, am_nm9, am_nm6, am_nm4, am_nm3, am_nm2, am_nm1, am_n0, am_n1, am_n2, am_n3, am_n4, am_n5, am_n6, am_n7, am_n8, am_n9, am_n10, am_n11, am_n12, am_n20, am_n35, am_n36, am_n60, am_n96, am_n99, am_n255, am_n999] at *; omega) ?_
              refine am_Rr.go 2 (σ' := (115, [some (.ref 5), some (.int k), some (.int a), some (.int b), some (.long (am_seg a b)), none, some (.int 6)], [.long (((am_laf (am_seg a b) 6 0 (x.2.2.2 6)) k.toNatClampNeg) ||| (am_seg a b)), .int k, .ref 6], (am_sB x 6 (am_laf (am_seg a b) 6 0 (x.2.2.2 6))))) rfl ?_
              refine am_Rr.chk (σ' := (116, [some (.ref 5), some (.int k), some (.int a), some (.int b), some (.long (am_seg a b)), none, some (.int 6)], [], (am_sB (am_sB x 6 (am_laf (am_seg a b) 6 0 (x.2.2.2 6))) 6 (vp_updL (am_laf (am_seg a b) 6 0 (x.2.2.2 6)) k.toNatClampNeg (((am_laf (am_seg a b) 6 0 (x.2.2.2 6)) k.toNatClampNeg) ||| (am_seg a b)))))) rfl (by rw [vp_in_iff]; simp only [Int32.lt_iff_toInt_lt, Int32.le_iff_toInt_le, ← Int32.toInt_inj, am_nm9, am_nm6, am_nm4, am_nm3, am_nm2, am_nm1, am_n0, am_n1, am_n2, am_n3, am_n4, am_n5, am_n6, am_n7, am_n8, am_n9, am_n10, am_n11, am_n12, am_n20, am_n35, am_n36, am_n60, am_n96, am_n99, am_n255, am_n999] at *; omega) ?_
              refine am_Rr.cong (x1 := (am_sB x 6 (vp_updL (am_laf (am_seg a b) 6 0 (x.2.2.2 6)) k.toNatClampNeg (((am_laf (am_seg a b) 6 0 (x.2.2.2 6)) k.toNatClampNeg) ||| (am_seg a b))))) (am_sBB _ _ _ _) ?_
              refine am_Rr.go 1 (σ' := (117, [some (.ref 5), some (.int k), some (.int a), some (.int b), some (.long (am_seg a b)), none, some (.int 6)], [.int 1], (am_sB x 6 (vp_updL (am_laf (am_seg a b) 6 0 (x.2.2.2 6)) k.toNatClampNeg (((am_laf (am_seg a b) 6 0 (x.2.2.2 6)) k.toNatClampNeg) ||| (am_seg a b)))))) rfl ?_
              refine am_Rr.ret (v := some (.int 1)) (x := (am_sB x 6 (vp_updL (am_laf (am_seg a b) 6 0 (x.2.2.2 6)) k.toNatClampNeg (((am_laf (am_seg a b) 6 0 (x.2.2.2 6)) k.toNatClampNeg) ||| (am_seg a b))))) rfl (by first | exact Or.inl rfl | exact Or.inr rfl | assumption) ?_
              exact Or.inl ⟨⟨by assumption, by assumption, by simp only [Int32.lt_iff_toInt_lt, Int32.le_iff_toInt_le, ← Int32.toInt_inj, am_nm9, am_nm6, am_nm4, am_nm3, am_nm2, am_nm1, am_n0, am_n1, am_n2, am_n3, am_n4, am_n5, am_n6, am_n7, am_n8, am_n9, am_n10, am_n11, am_n12, am_n20, am_n35, am_n36, am_n60, am_n96, am_n99, am_n255, am_n999] at *; omega, by simp only [Int32.lt_iff_toInt_lt, Int32.le_iff_toInt_le, ← Int32.toInt_inj, am_nm9, am_nm6, am_nm4, am_nm3, am_nm2, am_nm1, am_n0, am_n1, am_n2, am_n3, am_n4, am_n5, am_n6, am_n7, am_n8, am_n9, am_n10, am_n11, am_n12, am_n20, am_n35, am_n36, am_n60, am_n96, am_n99, am_n255, am_n999] at *; omega, by simp only [Int32.lt_iff_toInt_lt, Int32.le_iff_toInt_le, ← Int32.toInt_inj, am_nm9, am_nm6, am_nm4, am_nm3, am_nm2, am_nm1, am_n0, am_n1, am_n2, am_n3, am_n4, am_n5, am_n6, am_n7, am_n8, am_n9, am_n10, am_n11, am_n12, am_n20, am_n35, am_n36, am_n60, am_n96, am_n99, am_n255, am_n999] at *; omega, by simp only [Int32.lt_iff_toInt_lt, Int32.le_iff_toInt_le, ← Int32.toInt_inj, am_nm9, am_nm6, am_nm4, am_nm3, am_nm2, am_nm1, am_n0, am_n1, am_n2, am_n3, am_n4, am_n5, am_n6, am_n7, am_n8, am_n9, am_n10, am_n11, am_n12, am_n20, am_n35, am_n36, am_n60, am_n96, am_n99, am_n255, am_n999] at *; omega⟩, rfl, rfl⟩
          · refine am_Rr.go 1 (σ' := (35, [some (.ref 5), some (.int k), some (.int a), some (.int b), none, none, none], [.int 0], x)) rfl ?_
            refine am_Rr.ret (v := some (.int 0)) (x := x) rfl (by first | exact Or.inl rfl | exact Or.inr rfl | assumption) ?_
            first | exact Or.inr ⟨fun z => absurd z.1 (by assumption), rfl, rfl⟩ | exact Or.inr ⟨fun z => absurd z.2.1 (by assumption), rfl, rfl⟩ | exact Or.inr ⟨by rintro ⟨-, -, z1, z2, z3, z4⟩; simp only [Int32.lt_iff_toInt_lt, Int32.le_iff_toInt_le, ← Int32.toInt_inj, am_nm9, am_nm6, am_nm4, am_nm3, am_nm2, am_nm1, am_n0, am_n1, am_n2, am_n3, am_n4, am_n5, am_n6, am_n7, am_n8, am_n9, am_n10, am_n11, am_n12, am_n20, am_n35, am_n36, am_n60, am_n96, am_n99, am_n255, am_n999] at *; omega, rfl, rfl⟩
      · refine am_Rr.go 1 (σ' := (20, [some (.ref 5), some (.int k), some (.int a), some (.int b), none, none, none], [.int 0], x)) rfl ?_
        refine am_Rr.ret (v := some (.int 0)) (x := x) rfl (by first | exact Or.inl rfl | exact Or.inr rfl | assumption) ?_
        first | exact Or.inr ⟨fun z => absurd z.1 (by assumption), rfl, rfl⟩ | exact Or.inr ⟨fun z => absurd z.2.1 (by assumption), rfl, rfl⟩ | exact Or.inr ⟨by rintro ⟨-, -, z1, z2, z3, z4⟩; simp only [Int32.lt_iff_toInt_lt, Int32.le_iff_toInt_le, ← Int32.toInt_inj, am_nm9, am_nm6, am_nm4, am_nm3, am_nm2, am_nm1, am_n0, am_n1, am_n2, am_n3, am_n4, am_n5, am_n6, am_n7, am_n8, am_n9, am_n10, am_n11, am_n12, am_n20, am_n35, am_n36, am_n60, am_n96, am_n99, am_n255, am_n999] at *; omega, rfl, rfl⟩
    · show am_Rr _ _ (11, [some (.ref 5), some (.int k), some (.int a), some (.int b), none, none, none], [.int 0], x) _
      refine am_Rr.go 2 (σ' := (20, [some (.ref 5), some (.int k), some (.int a), some (.int b), none, none, none], [.int 0], x)) rfl ?_
      refine am_Rr.ret (v := some (.int 0)) (x := x) rfl (by first | exact Or.inl rfl | exact Or.inr rfl | assumption) ?_
      first | exact Or.inr ⟨fun z => absurd z.1 (by assumption), rfl, rfl⟩ | exact Or.inr ⟨fun z => absurd z.2.1 (by assumption), rfl, rfl⟩ | exact Or.inr ⟨by rintro ⟨-, -, z1, z2, z3, z4⟩; simp only [Int32.lt_iff_toInt_lt, Int32.le_iff_toInt_le, ← Int32.toInt_inj, am_nm9, am_nm6, am_nm4, am_nm3, am_nm2, am_nm1, am_n0, am_n1, am_n2, am_n3, am_n4, am_n5, am_n6, am_n7, am_n8, am_n9, am_n10, am_n11, am_n12, am_n20, am_n35, am_n36, am_n60, am_n96, am_n99, am_n255, am_n999] at *; omega, rfl, rfl⟩
  · show am_Rr _ _ (4, [some (.ref 5), some (.int k), some (.int a), some (.int b), none, none, none], [.int 0], x) _
    refine am_Rr.go 2 (σ' := (20, [some (.ref 5), some (.int k), some (.int a), some (.int b), none, none, none], [.int 0], x)) rfl ?_
    refine am_Rr.ret (v := some (.int 0)) (x := x) rfl (by first | exact Or.inl rfl | exact Or.inr rfl | assumption) ?_
    first | exact Or.inr ⟨fun z => absurd z.1 (by assumption), rfl, rfl⟩ | exact Or.inr ⟨fun z => absurd z.2.1 (by assumption), rfl, rfl⟩ | exact Or.inr ⟨by rintro ⟨-, -, z1, z2, z3, z4⟩; simp only [Int32.lt_iff_toInt_lt, Int32.le_iff_toInt_le, ← Int32.toInt_inj, am_nm9, am_nm6, am_nm4, am_nm3, am_nm2, am_nm1, am_n0, am_n1, am_n2, am_n3, am_n4, am_n5, am_n6, am_n7, am_n8, am_n9, am_n10, am_n11, am_n12, am_n20, am_n35, am_n36, am_n60, am_n96, am_n99, am_n255, am_n999] at *; omega, rfl, rfl⟩
