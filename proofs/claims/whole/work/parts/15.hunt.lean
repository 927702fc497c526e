/-! the hunt, the chances, the lot: laid by wip/whole/p15.py -/
def am_sta (f : Nat → Int64) (k : Int32) : Int64 := if 0 ≤ k.toInt ∧ k.toInt < 3 then f k.toNatClampNeg else 0
theorem S_standOf (d : Nat) (k : Int32) (x : am_X) : am_T (d + 2) mX2_standOf [.ref 20, .int k] x (fun ro x' => x = x' ∧ ro = some (.long (am_sta (x.2.2.2 21) k))) := by
  refine am_T.of rfl ?_
  show am_Rr _ kX2_standOf (0, [some (.ref 20), some (.int k)], [], x) _
  refine am_Rr.go 2 (σ' := (if k < 0 then 22 else 4, [some (.ref 20), some (.int k)], [], x)) rfl ?_
  refine am_Rr.ite (fun h_1 => ?_) (fun h_1 => ?_)
  · refine am_Rr.go 1 (σ' := (23, [some (.ref 20), some (.int k)], [.long 0], x)) rfl ?_
    refine am_Rr.ret (v := some (.long 0)) (x := x) rfl (by trivial) ?_
    exact ⟨rfl, by unfold am_sta; first | (rw [if_pos (by simp only [Int32.lt_iff_toInt_lt, Int32.le_iff_toInt_le, ← Int32.toInt_inj, am_nm9, am_nm6, am_nm4, am_nm3, am_nm2, am_nm1, am_n0, am_n1, am_n2, am_n3, am_n4, am_n5, am_n6, am_n7, am_n8, am_n9, am_n10, am_n11, am_n12, am_n20, am_n35, am_n36, am_n60, am_n96, am_n99, am_n255, am_n999] at *; omega)]) | (rw [if_neg (by simp only [Int32.lt_iff_toInt_lt, Int32.le_iff_toInt_le, ← Int32.toInt_inj, am_nm9, am_nm6, am_nm4, am_nm3, am_nm2, am_nm1, am_n0, am_n1, am_n2, am_n3, am_n4, am_n5, am_n6, am_n7, am_n8, am_n9, am_n10, am_n11, am_n12, am_n20, am_n35, am_n36, am_n60, am_n96, am_n99, am_n255, am_n999] at *; omega)])⟩
  · refine am_Rr.go 5 (σ' := (if (3 : Int32) ≤ k then 22 else 13, [some (.ref 20), some (.int k)], [], x)) rfl ?_
    refine am_Rr.ite (fun h_2 => ?_) (fun h_2 => ?_)
    · refine am_Rr.go 1 (σ' := (23, [some (.ref 20), some (.int k)], [.long 0], x)) rfl ?_
      refine am_Rr.ret (v := some (.long 0)) (x := x) rfl (by trivial) ?_
      exact ⟨rfl, by unfold am_sta; first | (rw [if_pos (by simp only [Int32.lt_iff_toInt_lt, Int32.le_iff_toInt_le, ← Int32.toInt_inj, am_nm9, am_nm6, am_nm4, am_nm3, am_nm2, am_nm1, am_n0, am_n1, am_n2, am_n3, am_n4, am_n5, am_n6, am_n7, am_n8, am_n9, am_n10, am_n11, am_n12, am_n20, am_n35, am_n36, am_n60, am_n96, am_n99, am_n255, am_n999] at *; omega)]) | (rw [if_neg (by simp only [Int32.lt_iff_toInt_lt, Int32.le_iff_toInt_le, ← Int32.toInt_inj, am_nm9, am_nm6, am_nm4, am_nm3, am_nm2, am_nm1, am_n0, am_n1, am_n2, am_n3, am_n4, am_n5, am_n6, am_n7, am_n8, am_n9, am_n10, am_n11, am_n12, am_n20, am_n35, am_n36, am_n60, am_n96, am_n99, am_n255, am_n999] at *; omega)])⟩
    · refine am_Rr.go 3 (σ' := (18, [some (.ref 20), some (.int k)], [.int k, .ref 21], x)) rfl ?_
      refine am_Rr.chk (σ' := (19, [some (.ref 20), some (.int k)], [.long ((x.2.2.2 21) k.toNatClampNeg)], x)) rfl (by rw [vp_in_iff]; simp only [Int32.lt_iff_toInt_lt, Int32.le_iff_toInt_le, ← Int32.toInt_inj, am_nm9, am_nm6, am_nm4, am_nm3, am_nm2, am_nm1, am_n0, am_n1, am_n2, am_n3, am_n4, am_n5, am_n6, am_n7, am_n8, am_n9, am_n10, am_n11, am_n12, am_n20, am_n35, am_n36, am_n60, am_n96, am_n99, am_n255, am_n999] at *; omega) ?_
      refine am_Rr.go 1 (σ' := (23, [some (.ref 20), some (.int k)], [.long ((x.2.2.2 21) k.toNatClampNeg)], x)) rfl ?_
      refine am_Rr.ret (v := some (.long ((x.2.2.2 21) k.toNatClampNeg))) (x := x) rfl (by trivial) ?_
      exact ⟨rfl, by unfold am_sta; first | (rw [if_pos (by simp only [Int32.lt_iff_toInt_lt, Int32.le_iff_toInt_le, ← Int32.toInt_inj, am_nm9, am_nm6, am_nm4, am_nm3, am_nm2, am_nm1, am_n0, am_n1, am_n2, am_n3, am_n4, am_n5, am_n6, am_n7, am_n8, am_n9, am_n10, am_n11, am_n12, am_n20, am_n35, am_n36, am_n60, am_n96, am_n99, am_n255, am_n999] at *; omega)]) | (rw [if_neg (by simp only [Int32.lt_iff_toInt_lt, Int32.le_iff_toInt_le, ← Int32.toInt_inj, am_nm9, am_nm6, am_nm4, am_nm3, am_nm2, am_nm1, am_n0, am_n1, am_n2, am_n3, am_n4, am_n5, am_n6, am_n7, am_n8, am_n9, am_n10, am_n11, am_n12, am_n20, am_n35, am_n36, am_n60, am_n96, am_n99, am_n255, am_n999] at *; omega)])⟩
def am_gA (f : Nat → Int64) (w : Int64) (k : Int32) : Int64 := if w = 0 then am_sta f k else w
theorem S_goalAhead (d : Nat) (w : Int64) (k : Int32) (x : am_X) : am_T (d + 3) mX2_goalAhead [.ref 20, .long w, .int k] x (fun ro x' => x = x' ∧ ro = some (.long (am_gA (x.2.2.2 21) w k))) := by
  refine am_T.of rfl ?_
  show am_Rr _ kX2_goalAhead (0, [some (.ref 20), some (.long w), none, some (.int k)], [], x) _
  refine am_Rr.go 4 (σ' := (if (lg_cmp w 0) = 0 then 10 else 6, [some (.ref 20), some (.long w), none, some (.int k)], [], x)) rfl ?_
  refine am_Rr.ite (fun h_1 => ?_) (fun h_1 => ?_)
  · refine am_Rr.go 2 (σ' := (12, [some (.ref 20), some (.long w), none, some (.int k)], [.int k, .ref 20], x)) rfl ?_
    refine am_Rr.call (pc := 15) (ls := [some (.ref 20), some (.long w), none, some (.int k)]) (st := []) rfl (S_standOf d k x) ?_
    rintro _ _ ⟨rfl, rfl⟩
    show am_Rr _ _ (15, [some (.ref 20), some (.long w), none, some (.int k)], [.long (am_sta (x.2.2.2 21) k)], x) _
    refine am_Rr.ret (v := some (.long (am_sta (x.2.2.2 21) k))) (x := x) rfl (by trivial) ?_
    exact ⟨rfl, by rw [am_cmp0] at h_1; unfold am_gA; first | rw [if_pos (by assumption)] | rw [if_neg (by assumption)]⟩
  · refine am_Rr.go 2 (σ' := (15, [some (.ref 20), some (.long w), none, some (.int k)], [.long w], x)) rfl ?_
    refine am_Rr.ret (v := some (.long w)) (x := x) rfl (by trivial) ?_
    exact ⟨rfl, by rw [am_cmp0] at h_1; unfold am_gA; first | rw [if_pos (by assumption)] | rw [if_neg (by assumption)]⟩
def am_lkS (g : Nat → Int64) (pc : Int32) (s : Int64) (m q : Int32) : Int64 := if pc ≤ 0 then s &&& (am_bit q ^^^ (-1)) else if (m + 1) - (m + 1) / pc * pc = 0 then (s &&& (am_bit q ^^^ (-1))) ||| (am_bes ((s &&& (am_bit q ^^^ (-1))) &&& (am_sqo g 5 ^^^ (-1))) &&& am_open g) else s &&& (am_bit q ^^^ (-1))
def am_lkx (x : am_X) (q : Int32) : am_X := am_uL (am_uI x 642 (x.1 642 + 1)) 641 (am_lkS (x.2.2.2 2) (x.1 37) (x.2.1 641) (x.1 642) q)
theorem S_look (d : Nat) (q : Int32) (x : am_X) : am_T (d + 4) mX2_look [.ref 20, .ref 1, .int q] x (fun o x' => o = none ∧ am_lkx x q = x') := by
  refine am_T.of rfl ?_
  show am_Rr _ kX2_look (0, [some (.ref 20), some (.ref 1), some (.int q)], [], x) _
  refine am_Rr.go 4 (σ' := (6, [some (.ref 20), some (.ref 1), some (.int q)], [.int q, .long (x.2.1 641), .ref 20], x)) rfl ?_
  refine am_Rr.call (pc := 9) (ls := [some (.ref 20), some (.ref 1), some (.int q)]) (st := [.long (x.2.1 641), .ref 20]) rfl (S_bit d q x) ?_
  rintro _ _ ⟨rfl, rfl⟩
  show am_Rr _ _ (9, [some (.ref 20), some (.ref 1), some (.int q)], [.long (am_bit q), .long (x.2.1 641), .ref 20], x) _
  refine am_Rr.go 13 (σ' := (if (x.1 37) ≤ 0 then 77 else 34, [some (.ref 20), some (.ref 1), some (.int q)], [], (am_uI (am_uL x 641 ((x.2.1 641) &&& ((am_bit q) ^^^ (-1)))) 642 ((x.1 642) + 1)))) rfl ?_
  refine am_Rr.ite (fun h_2 => ?_) (fun h_2 => ?_)
  · refine am_Rr.ret (v := none) (x := (am_uI (am_uL x 641 ((x.2.1 641) &&& ((am_bit q) ^^^ (-1)))) 642 ((x.1 642) + 1))) rfl (by trivial) ?_
    refine ⟨rfl, ?_⟩
    unfold am_lkx am_lkS
    simp only [*, if_true, if_false]
    try rfl
  · refine am_Rr.go 4 (σ' := (42, [some (.ref 20), some (.ref 1), some (.int q)], [.int (x.1 37), .int ((x.1 642) + 1)], (am_uI (am_uL x 641 ((x.2.1 641) &&& ((am_bit q) ^^^ (-1)))) 642 ((x.1 642) + 1)))) rfl ?_
    refine am_Rr.chk (σ' := (43, [some (.ref 20), some (.ref 1), some (.int q)], [.int (((x.1 642) + 1) - ((x.1 642) + 1) / (x.1 37) * (x.1 37))], (am_uI (am_uL x 641 ((x.2.1 641) &&& ((am_bit q) ^^^ (-1)))) 642 ((x.1 642) + 1)))) rfl (by intro z; exact absurd (show (x.1 37) ≤ 0 from z ▸ Int32.le_refl _) (by assumption)) ?_
    refine am_Rr.go 1 (σ' := (if (((x.1 642) + 1) - ((x.1 642) + 1) / (x.1 37) * (x.1 37)) = 0 then 46 else 77, [some (.ref 20), some (.ref 1), some (.int q)], [], (am_uI (am_uL x 641 ((x.2.1 641) &&& ((am_bit q) ^^^ (-1)))) 642 ((x.1 642) + 1)))) rfl ?_
    refine am_Rr.ite (fun h_3 => ?_) (fun h_3 => ?_)
    · refine am_Rr.go 7 (σ' := (57, [some (.ref 20), some (.ref 1), some (.int q)], [.int 5, .ref 1, .long ((x.2.1 641) &&& ((am_bit q) ^^^ (-1))), .long ((x.2.1 641) &&& ((am_bit q) ^^^ (-1))), .ref 20], (am_uI (am_uL x 641 ((x.2.1 641) &&& ((am_bit q) ^^^ (-1)))) 642 ((x.1 642) + 1)))) rfl ?_
      refine am_Rr.call (pc := 60) (ls := [some (.ref 20), some (.ref 1), some (.int q)]) (st := [.long ((x.2.1 641) &&& ((am_bit q) ^^^ (-1))), .long ((x.2.1 641) &&& ((am_bit q) ^^^ (-1))), .ref 20]) rfl (S_squaresOf_1 (d + 1) (5 : Int32) (am_uI (am_uL x 641 ((x.2.1 641) &&& ((am_bit q) ^^^ (-1)))) 642 ((x.1 642) + 1))) ?_
      rintro _ _ ⟨rfl, rfl⟩
      show am_Rr _ _ (60, [some (.ref 20), some (.ref 1), some (.int q)], [.long (am_sqo (x.2.2.2 2) (5 : Int32)), .long ((x.2.1 641) &&& ((am_bit q) ^^^ (-1))), .long ((x.2.1 641) &&& ((am_bit q) ^^^ (-1))), .ref 20], (am_uI (am_uL x 641 ((x.2.1 641) &&& ((am_bit q) ^^^ (-1)))) 642 ((x.1 642) + 1))) _
      refine am_Rr.go 3 (σ' := (65, [some (.ref 20), some (.ref 1), some (.int q)], [.long (((x.2.1 641) &&& ((am_bit q) ^^^ (-1))) &&& ((am_sqo (x.2.2.2 2) (5 : Int32)) ^^^ (-1))), .long ((x.2.1 641) &&& ((am_bit q) ^^^ (-1))), .ref 20], (am_uI (am_uL x 641 ((x.2.1 641) &&& ((am_bit q) ^^^ (-1)))) 642 ((x.1 642) + 1)))) rfl ?_
      refine am_Rr.call (pc := 68) (ls := [some (.ref 20), some (.ref 1), some (.int q)]) (st := [.long ((x.2.1 641) &&& ((am_bit q) ^^^ (-1))), .ref 20]) rfl (S_beside d (((x.2.1 641) &&& ((am_bit q) ^^^ (-1))) &&& ((am_sqo (x.2.2.2 2) (5 : Int32)) ^^^ (-1))) (am_uI (am_uL x 641 ((x.2.1 641) &&& ((am_bit q) ^^^ (-1)))) 642 ((x.1 642) + 1))) ?_
      rintro _ _ ⟨rfl, rfl⟩
      show am_Rr _ _ (68, [some (.ref 20), some (.ref 1), some (.int q)], [.long (am_bes (((x.2.1 641) &&& ((am_bit q) ^^^ (-1))) &&& ((am_sqo (x.2.2.2 2) (5 : Int32)) ^^^ (-1)))), .long ((x.2.1 641) &&& ((am_bit q) ^^^ (-1))), .ref 20], (am_uI (am_uL x 641 ((x.2.1 641) &&& ((am_bit q) ^^^ (-1)))) 642 ((x.1 642) + 1))) _
      refine am_Rr.go 1 (σ' := (69, [some (.ref 20), some (.ref 1), some (.int q)], [.ref 1, .long (am_bes (((x.2.1 641) &&& ((am_bit q) ^^^ (-1))) &&& ((am_sqo (x.2.2.2 2) (5 : Int32)) ^^^ (-1)))), .long ((x.2.1 641) &&& ((am_bit q) ^^^ (-1))), .ref 20], (am_uI (am_uL x 641 ((x.2.1 641) &&& ((am_bit q) ^^^ (-1)))) 642 ((x.1 642) + 1)))) rfl ?_
      refine am_Rr.call (pc := 72) (ls := [some (.ref 20), some (.ref 1), some (.int q)]) (st := [.long (am_bes (((x.2.1 641) &&& ((am_bit q) ^^^ (-1))) &&& ((am_sqo (x.2.2.2 2) (5 : Int32)) ^^^ (-1)))), .long ((x.2.1 641) &&& ((am_bit q) ^^^ (-1))), .ref 20]) rfl (S_open_1 d  (am_uI (am_uL x 641 ((x.2.1 641) &&& ((am_bit q) ^^^ (-1)))) 642 ((x.1 642) + 1))) ?_
      rintro _ _ ⟨rfl, rfl⟩
      show am_Rr _ _ (72, [some (.ref 20), some (.ref 1), some (.int q)], [.long (am_open (x.2.2.2 2)), .long (am_bes (((x.2.1 641) &&& ((am_bit q) ^^^ (-1))) &&& ((am_sqo (x.2.2.2 2) (5 : Int32)) ^^^ (-1)))), .long ((x.2.1 641) &&& ((am_bit q) ^^^ (-1))), .ref 20], (am_uI (am_uL x 641 ((x.2.1 641) &&& ((am_bit q) ^^^ (-1)))) 642 ((x.1 642) + 1))) _
      refine am_Rr.go 3 (σ' := (77, [some (.ref 20), some (.ref 1), some (.int q)], [], (am_uL (am_uI (am_uL x 641 ((x.2.1 641) &&& ((am_bit q) ^^^ (-1)))) 642 ((x.1 642) + 1)) 641 (((x.2.1 641) &&& ((am_bit q) ^^^ (-1))) ||| ((am_bes (((x.2.1 641) &&& ((am_bit q) ^^^ (-1))) &&& ((am_sqo (x.2.2.2 2) (5 : Int32)) ^^^ (-1)))) &&& (am_open (x.2.2.2 2))))))) rfl ?_
      refine am_Rr.cong (x1 := (am_uL (am_uI x 642 ((x.1 642) + 1)) 641 (((x.2.1 641) &&& ((am_bit q) ^^^ (-1))) ||| ((am_bes (((x.2.1 641) &&& ((am_bit q) ^^^ (-1))) &&& ((am_sqo (x.2.2.2 2) (5 : Int32)) ^^^ (-1)))) &&& (am_open (x.2.2.2 2)))))) (by refine Prod.ext ?_ (Prod.ext ?_ (Prod.ext ?_ ?_)) <;> (first | rfl | (funext j; simp only [am_uI, am_uL, am_sA, am_sB, am_up]; (repeat' split) <;> simp_all))) ?_
      refine am_Rr.ret (v := none) (x := (am_uL (am_uI x 642 ((x.1 642) + 1)) 641 (((x.2.1 641) &&& ((am_bit q) ^^^ (-1))) ||| ((am_bes (((x.2.1 641) &&& ((am_bit q) ^^^ (-1))) &&& ((am_sqo (x.2.2.2 2) (5 : Int32)) ^^^ (-1)))) &&& (am_open (x.2.2.2 2)))))) rfl (by trivial) ?_
      refine ⟨rfl, ?_⟩
      unfold am_lkx am_lkS
      simp only [*, if_true, if_false]
      try rfl
    · refine am_Rr.ret (v := none) (x := (am_uI (am_uL x 641 ((x.2.1 641) &&& ((am_bit q) ^^^ (-1)))) 642 ((x.1 642) + 1))) rfl (by trivial) ?_
      refine ⟨rfl, ?_⟩
      unfold am_lkx am_lkS
      simp only [*, if_true, if_false]
      try rfl
def am_neF (s : Int64) : Nat → Int64 → Int64
  | 0, a => a
  | n + 1, a => if a &&& s = 0 then am_neF s n (a ||| am_bes a) else a
def am_ne (s w : Int64) : Int32 := am_least (am_neF s 10 w &&& s)
theorem L_nearest (d : Nat) (w : Int64) (x : am_X) : ∀ (n i : Nat) (a : Int64), i + n = 10 → am_Rr (d + 3) kX2_nearest (5, [some (.ref 20), some (.long w), none, some (.long a), none, some (.int (nI i))], [], x) (fun ro x' => x = x' ∧ ro = some (.int (am_least (am_neF (x.2.1 641) n a &&& (x.2.1 641))))) := by
  intro n
  induction n with
  | zero =>
    intro i a hi
    have hI : (nI i).toInt = (i : Int) := nI_toInt (by omega)
    refine am_Rr.go 3 (σ' := (if (10 : Int32) ≤ (nI i) then 36 else 12, [some (.ref 20), some (.long w), none, some (.long a), none, some (.int (nI i))], [], x)) rfl ?_
    refine am_Rr.ite (fun h_1 => ?_) (fun h_1 => ?_)
    · refine am_Rr.go 4 (σ' := (42, [some (.ref 20), some (.long w), none, some (.long a), none, some (.int (nI i))], [.long (a &&& (x.2.1 641))], x)) rfl ?_
      refine am_Rr.call (pc := 45) (ls := [some (.ref 20), some (.long w), none, some (.long a), none, some (.int (nI i))]) (st := []) rfl (S_least d (a &&& (x.2.1 641)) x) ?_
      rintro _ _ ⟨rfl, rfl⟩
      show am_Rr _ _ (45, [some (.ref 20), some (.long w), none, some (.long a), none, some (.int (nI i))], [.int (am_least (a &&& (x.2.1 641)))], x) _
      refine am_Rr.ret (v := some (.int (am_least (a &&& (x.2.1 641))))) (x := x) rfl (by trivial) ?_
      first | exact ⟨rfl, rfl⟩ | (rw [am_cmp0] at h_1; exact ⟨rfl, by rw [show am_neF (x.2.1 641) (n + 1) a = a from if_neg (by assumption)]⟩) | (exfalso; simp only [Int32.lt_iff_toInt_lt, Int32.le_iff_toInt_le, ← Int32.toInt_inj, am_nm9, am_nm6, am_nm4, am_nm3, am_nm2, am_nm1, am_n0, am_n1, am_n2, am_n3, am_n4, am_n5, am_n6, am_n7, am_n8, am_n9, am_n10, am_n11, am_n12, am_n20, am_n35, am_n36, am_n60, am_n96, am_n99, am_n255, am_n999, am_n141] at *; omega)
    · exfalso
      simp only [Int32.lt_iff_toInt_lt, Int32.le_iff_toInt_le, ← Int32.toInt_inj, am_nm9, am_nm6, am_nm4, am_nm3, am_nm2, am_nm1, am_n0, am_n1, am_n2, am_n3, am_n4, am_n5, am_n6, am_n7, am_n8, am_n9, am_n10, am_n11, am_n12, am_n20, am_n35, am_n36, am_n60, am_n96, am_n99, am_n255, am_n999, am_n141] at *; omega
  | succ n ih =>
    intro i a hi
    have hI : (nI i).toInt = (i : Int) := nI_toInt (by omega)
    refine am_Rr.go 3 (σ' := (if (10 : Int32) ≤ (nI i) then 36 else 12, [some (.ref 20), some (.long w), none, some (.long a), none, some (.int (nI i))], [], x)) rfl ?_
    refine am_Rr.ite (fun h_1 => ?_) (fun h_1 => ?_)
    · refine am_Rr.go 4 (σ' := (42, [some (.ref 20), some (.long w), none, some (.long a), none, some (.int (nI i))], [.long (a &&& (x.2.1 641))], x)) rfl ?_
      refine am_Rr.call (pc := 45) (ls := [some (.ref 20), some (.long w), none, some (.long a), none, some (.int (nI i))]) (st := []) rfl (S_least d (a &&& (x.2.1 641)) x) ?_
      rintro _ _ ⟨rfl, rfl⟩
      show am_Rr _ _ (45, [some (.ref 20), some (.long w), none, some (.long a), none, some (.int (nI i))], [.int (am_least (a &&& (x.2.1 641)))], x) _
      refine am_Rr.ret (v := some (.int (am_least (a &&& (x.2.1 641))))) (x := x) rfl (by trivial) ?_
      first | exact ⟨rfl, rfl⟩ | (rw [am_cmp0] at h_1; exact ⟨rfl, by rw [show am_neF (x.2.1 641) (n + 1) a = a from if_neg (by assumption)]⟩) | (exfalso; simp only [Int32.lt_iff_toInt_lt, Int32.le_iff_toInt_le, ← Int32.toInt_inj, am_nm9, am_nm6, am_nm4, am_nm3, am_nm2, am_nm1, am_n0, am_n1, am_n2, am_n3, am_n4, am_n5, am_n6, am_n7, am_n8, am_n9, am_n10, am_n11, am_n12, am_n20, am_n35, am_n36, am_n60, am_n96, am_n99, am_n255, am_n999, am_n141] at *; omega)
    · refine am_Rr.go 7 (σ' := (if (lg_cmp (a &&& (x.2.1 641)) 0) = 0 then 23 else 36, [some (.ref 20), some (.long w), none, some (.long a), none, some (.int (nI i))], [], x)) rfl ?_
      refine am_Rr.ite (fun h_3 => ?_) (fun h_3 => ?_)
      · refine am_Rr.go 2 (σ' := (25, [some (.ref 20), some (.long w), none, some (.long a), none, some (.int (nI i))], [.long a, .long a], x)) rfl ?_
        refine am_Rr.call (pc := 28) (ls := [some (.ref 20), some (.long w), none, some (.long a), none, some (.int (nI i))]) (st := [.long a]) rfl (S_beside d a x) ?_
        rintro _ _ ⟨rfl, rfl⟩
        show am_Rr _ _ (28, [some (.ref 20), some (.long w), none, some (.long a), none, some (.int (nI i))], [.long (am_bes a), .long a], x) _
        refine am_Rr.go 4 (σ' := (5, [some (.ref 20), some (.long w), none, some (.long (a ||| (am_bes a))), none, some (.int ((nI i) + 1))], [], x)) rfl ?_
        rw [am_cmp0] at h_3
        rw [am_inc, show am_neF (x.2.1 641) (n + 1) a = am_neF (x.2.1 641) n (a ||| am_bes a) from if_pos (by assumption)]
        exact ih (i + 1) _ (by omega)
      · refine am_Rr.go 4 (σ' := (42, [some (.ref 20), some (.long w), none, some (.long a), none, some (.int (nI i))], [.long (a &&& (x.2.1 641))], x)) rfl ?_
        refine am_Rr.call (pc := 45) (ls := [some (.ref 20), some (.long w), none, some (.long a), none, some (.int (nI i))]) (st := []) rfl (S_least d (a &&& (x.2.1 641)) x) ?_
        rintro _ _ ⟨rfl, rfl⟩
        show am_Rr _ _ (45, [some (.ref 20), some (.long w), none, some (.long a), none, some (.int (nI i))], [.int (am_least (a &&& (x.2.1 641)))], x) _
        refine am_Rr.ret (v := some (.int (am_least (a &&& (x.2.1 641))))) (x := x) rfl (by trivial) ?_
        first | exact ⟨rfl, rfl⟩ | (rw [am_cmp0] at h_3; exact ⟨rfl, by rw [show am_neF (x.2.1 641) (n + 1) a = a from if_neg (by assumption)]⟩) | (exfalso; simp only [Int32.lt_iff_toInt_lt, Int32.le_iff_toInt_le, ← Int32.toInt_inj, am_nm9, am_nm6, am_nm4, am_nm3, am_nm2, am_nm1, am_n0, am_n1, am_n2, am_n3, am_n4, am_n5, am_n6, am_n7, am_n8, am_n9, am_n10, am_n11, am_n12, am_n20, am_n35, am_n36, am_n60, am_n96, am_n99, am_n255, am_n999, am_n141] at *; omega)
theorem S_nearest (d : Nat) (w : Int64) (x : am_X) : am_T (d + 4) mX2_nearest [.ref 20, .long w] x (fun ro x' => x = x' ∧ ro = some (.int (am_ne (x.2.1 641) w))) := by
  refine am_T.of rfl ?_
  show am_Rr _ kX2_nearest (0, [some (.ref 20), some (.long w), none, none, none, none], [], x) _
  refine am_Rr.go 4 (σ' := (5, [some (.ref 20), some (.long w), none, some (.long w), none, some (.int 0)], [], x)) rfl ?_
  exact L_nearest d w x 10 0 w rfl
def am_nr (s : Int64) (i : Nat) : Int32 := am_bc (am_bes (((1 : Int64) <<< ((nI i).toInt64 &&& 63)) &&& s) &&& s)
def am_moF (s : Int64) : Nat → Nat → Int32 → Int32 → Int32
  | 0, _, b, _ => b
  | n + 1, i, b, m => if am_nr s i ≤ m then am_moF s n (i + 1) b m else am_moF s n (i + 1) (nI i) (am_nr s i)
def am_mo (s : Int64) : Int32 := am_moF s 36 0 (am_least s) 0
def am_feF (s : Int64) : Nat → Nat → Int32 → Int32 → Int32
  | 0, _, b, _ => b
  | n + 1, i, b, m => if am_nr s i ≤ 0 ∨ m ≤ am_nr s i then am_feF s n (i + 1) b m else am_feF s n (i + 1) (nI i) (am_nr s i)
def am_fe (s : Int64) : Int32 := am_feF s 36 0 (am_least s) 5
theorem L_withMostBeside (d : Nat) (x : am_X) : ∀ (n i : Nat) (b m : Int32), i + n = 36 → am_Rr (d + 3) kX2_withMostBeside (12, [some (.ref 20), some (.int b), some (.int m), some (.int (nI i)), none], [], x) (fun ro x' => x = x' ∧ ro = some (.int (am_moF (x.2.1 641) n i b m))) := by
  intro n
  induction n with
  | zero =>
    intro i b m hi
    have hI : (nI i).toInt = (i : Int) := nI_toInt (by omega)
    refine am_Rr.go 3 (σ' := (if (36 : Int32) ≤ (nI i) then 56 else 18, [some (.ref 20), some (.int b), some (.int m), some (.int (nI i)), none], [], x)) rfl ?_
    refine am_Rr.ite (fun h_1 => ?_) (fun h_1 => ?_)
    · refine am_Rr.go 1 (σ' := (57, [some (.ref 20), some (.int b), some (.int m), some (.int (nI i)), none], [.int b], x)) rfl ?_
      refine am_Rr.ret (v := some (.int b)) (x := x) rfl (by trivial) ?_
      first | exact ⟨rfl, rfl⟩ | (exfalso; simp only [Int32.lt_iff_toInt_lt, Int32.le_iff_toInt_le, ← Int32.toInt_inj, am_nm9, am_nm6, am_nm4, am_nm3, am_nm2, am_nm1, am_n0, am_n1, am_n2, am_n3, am_n4, am_n5, am_n6, am_n7, am_n8, am_n9, am_n10, am_n11, am_n12, am_n20, am_n35, am_n36, am_n60, am_n96, am_n99, am_n255, am_n999, am_n141] at *; omega)
    · exfalso
      simp only [Int32.lt_iff_toInt_lt, Int32.le_iff_toInt_le, ← Int32.toInt_inj, am_nm9, am_nm6, am_nm4, am_nm3, am_nm2, am_nm1, am_n0, am_n1, am_n2, am_n3, am_n4, am_n5, am_n6, am_n7, am_n8, am_n9, am_n10, am_n11, am_n12, am_n20, am_n35, am_n36, am_n60, am_n96, am_n99, am_n255, am_n999, am_n141] at *; omega
  | succ n ih =>
    intro i b m hi
    have hI : (nI i).toInt = (i : Int) := nI_toInt (by omega)
    refine am_Rr.go 3 (σ' := (if (36 : Int32) ≤ (nI i) then 56 else 18, [some (.ref 20), some (.int b), some (.int m), some (.int (nI i)), none], [], x)) rfl ?_
    refine am_Rr.ite (fun h_1 => ?_) (fun h_1 => ?_)
    · refine am_Rr.go 1 (σ' := (57, [some (.ref 20), some (.int b), some (.int m), some (.int (nI i)), none], [.int b], x)) rfl ?_
      refine am_Rr.ret (v := some (.int b)) (x := x) rfl (by trivial) ?_
      first | exact ⟨rfl, rfl⟩ | (exfalso; simp only [Int32.lt_iff_toInt_lt, Int32.le_iff_toInt_le, ← Int32.toInt_inj, am_nm9, am_nm6, am_nm4, am_nm3, am_nm2, am_nm1, am_n0, am_n1, am_n2, am_n3, am_n4, am_n5, am_n6, am_n7, am_n8, am_n9, am_n10, am_n11, am_n12, am_n20, am_n35, am_n36, am_n60, am_n96, am_n99, am_n255, am_n999, am_n141] at *; omega)
    · refine am_Rr.go 6 (σ' := (26, [some (.ref 20), some (.int b), some (.int m), some (.int (nI i)), none], [.long ((1 <<< ((nI i).toInt64 &&& 63)) &&& (x.2.1 641))], x)) rfl ?_
      refine am_Rr.call (pc := 29) (ls := [some (.ref 20), some (.int b), some (.int m), some (.int (nI i)), none]) (st := []) rfl (S_beside d ((1 <<< ((nI i).toInt64 &&& 63)) &&& (x.2.1 641)) x) ?_
      rintro _ _ ⟨rfl, rfl⟩
      show am_Rr _ _ (29, [some (.ref 20), some (.int b), some (.int m), some (.int (nI i)), none], [.long (am_bes ((1 <<< ((nI i).toInt64 &&& 63)) &&& (x.2.1 641)))], x) _
      refine am_Rr.go 3 (σ' := (34, [some (.ref 20), some (.int b), some (.int m), some (.int (nI i)), none], [.long ((am_bes ((1 <<< ((nI i).toInt64 &&& 63)) &&& (x.2.1 641))) &&& (x.2.1 641))], x)) rfl ?_
      refine am_Rr.call (pc := 37) (ls := [some (.ref 20), some (.int b), some (.int m), some (.int (nI i)), none]) (st := []) rfl (S_bitCountJ (d + 1) ((am_bes ((1 <<< ((nI i).toInt64 &&& 63)) &&& (x.2.1 641))) &&& (x.2.1 641)) x) ?_
      rintro _ _ ⟨rfl, rfl⟩
      show am_Rr _ _ (37, [some (.ref 20), some (.int b), some (.int m), some (.int (nI i)), none], [.int (am_bc ((am_bes ((1 <<< ((nI i).toInt64 &&& 63)) &&& (x.2.1 641))) &&& (x.2.1 641)))], x) _
      refine am_Rr.go 4 (σ' := (if (am_bc ((am_bes ((1 <<< ((nI i).toInt64 &&& 63)) &&& (x.2.1 641))) &&& (x.2.1 641))) ≤ m then 50 else 45, [some (.ref 20), some (.int b), some (.int m), some (.int (nI i)), some (.int (am_bc ((am_bes ((1 <<< ((nI i).toInt64 &&& 63)) &&& (x.2.1 641))) &&& (x.2.1 641))))], [], x)) rfl ?_
      refine am_Rr.ite (fun h_4 => ?_) (fun h_4 => ?_)
      · refine am_Rr.go 2 (σ' := (12, [some (.ref 20), some (.int b), some (.int m), some (.int ((nI i) + 1)), some (.int (am_bc ((am_bes ((1 <<< ((nI i).toInt64 &&& 63)) &&& (x.2.1 641))) &&& (x.2.1 641))))], [], x)) rfl ?_
        refine am_Rr.weak (ls0 := [some (.ref 20), some (.int b), some (.int m), some (.int ((nI i) + 1)), none]) (by simp [am_le]) ?_
        first | rw [show am_moF (x.2.1 641) (n + 1) i b m = am_moF (x.2.1 641) n (i + 1) b m from if_pos (by assumption)] | rw [show am_moF (x.2.1 641) (n + 1) i b m = am_moF (x.2.1 641) n (i + 1) (nI i) (am_nr (x.2.1 641) i) from if_neg (by assumption)]
        simp only [am_inc]
        exact ih (i + 1) _ _ (by omega)
      · refine am_Rr.go 6 (σ' := (12, [some (.ref 20), some (.int (nI i)), some (.int (am_bc ((am_bes ((1 <<< ((nI i).toInt64 &&& 63)) &&& (x.2.1 641))) &&& (x.2.1 641)))), some (.int ((nI i) + 1)), some (.int (am_bc ((am_bes ((1 <<< ((nI i).toInt64 &&& 63)) &&& (x.2.1 641))) &&& (x.2.1 641))))], [], x)) rfl ?_
        refine am_Rr.weak (ls0 := [some (.ref 20), some (.int (nI i)), some (.int (am_bc ((am_bes ((1 <<< ((nI i).toInt64 &&& 63)) &&& (x.2.1 641))) &&& (x.2.1 641)))), some (.int ((nI i) + 1)), none]) (by simp [am_le]) ?_
        first | rw [show am_moF (x.2.1 641) (n + 1) i b m = am_moF (x.2.1 641) n (i + 1) b m from if_pos (by assumption)] | rw [show am_moF (x.2.1 641) (n + 1) i b m = am_moF (x.2.1 641) n (i + 1) (nI i) (am_nr (x.2.1 641) i) from if_neg (by assumption)]
        simp only [am_inc]
        exact ih (i + 1) _ _ (by omega)
theorem S_withMostBeside (d : Nat) (x : am_X) : am_T (d + 4) mX2_withMostBeside [.ref 20] x (fun ro x' => x = x' ∧ ro = some (.int (am_mo (x.2.1 641)))) := by
  refine am_T.of rfl ?_
  show am_Rr _ kX2_withMostBeside (0, [some (.ref 20), none, none, none, none], [], x) _
  refine am_Rr.go 2 (σ' := (4, [some (.ref 20), none, none, none, none], [.long (x.2.1 641)], x)) rfl ?_
  refine am_Rr.call (pc := 7) (ls := [some (.ref 20), none, none, none, none]) (st := []) rfl (S_least d (x.2.1 641) x) ?_
  rintro _ _ ⟨rfl, rfl⟩
  show am_Rr _ _ (7, [some (.ref 20), none, none, none, none], [.int (am_least (x.2.1 641))], x) _
  refine am_Rr.go 5 (σ' := (12, [some (.ref 20), some (.int (am_least (x.2.1 641))), some (.int 0), some (.int 0), none], [], x)) rfl ?_
  exact L_withMostBeside d x 36 0 _ _ rfl
theorem L_withFewestBeside (d : Nat) (x : am_X) : ∀ (n i : Nat) (b m : Int32), i + n = 36 → am_Rr (d + 3) kX2_withFewestBeside (12, [some (.ref 20), some (.int b), some (.int m), some (.int (nI i)), none], [], x) (fun ro x' => x = x' ∧ ro = some (.int (am_feF (x.2.1 641) n i b m))) := by
  intro n
  induction n with
  | zero =>
    intro i b m hi
    have hI : (nI i).toInt = (i : Int) := nI_toInt (by omega)
    refine am_Rr.go 3 (σ' := (if (36 : Int32) ≤ (nI i) then 61 else 18, [some (.ref 20), some (.int b), some (.int m), some (.int (nI i)), none], [], x)) rfl ?_
    refine am_Rr.ite (fun h_1 => ?_) (fun h_1 => ?_)
    · refine am_Rr.go 1 (σ' := (62, [some (.ref 20), some (.int b), some (.int m), some (.int (nI i)), none], [.int b], x)) rfl ?_
      refine am_Rr.ret (v := some (.int b)) (x := x) rfl (by trivial) ?_
      first | exact ⟨rfl, rfl⟩ | (exfalso; simp only [Int32.lt_iff_toInt_lt, Int32.le_iff_toInt_le, ← Int32.toInt_inj, am_nm9, am_nm6, am_nm4, am_nm3, am_nm2, am_nm1, am_n0, am_n1, am_n2, am_n3, am_n4, am_n5, am_n6, am_n7, am_n8, am_n9, am_n10, am_n11, am_n12, am_n20, am_n35, am_n36, am_n60, am_n96, am_n99, am_n255, am_n999, am_n141] at *; omega)
    · exfalso
      simp only [Int32.lt_iff_toInt_lt, Int32.le_iff_toInt_le, ← Int32.toInt_inj, am_nm9, am_nm6, am_nm4, am_nm3, am_nm2, am_nm1, am_n0, am_n1, am_n2, am_n3, am_n4, am_n5, am_n6, am_n7, am_n8, am_n9, am_n10, am_n11, am_n12, am_n20, am_n35, am_n36, am_n60, am_n96, am_n99, am_n255, am_n999, am_n141] at *; omega
  | succ n ih =>
    intro i b m hi
    have hI : (nI i).toInt = (i : Int) := nI_toInt (by omega)
    refine am_Rr.go 3 (σ' := (if (36 : Int32) ≤ (nI i) then 61 else 18, [some (.ref 20), some (.int b), some (.int m), some (.int (nI i)), none], [], x)) rfl ?_
    refine am_Rr.ite (fun h_1 => ?_) (fun h_1 => ?_)
    · refine am_Rr.go 1 (σ' := (62, [some (.ref 20), some (.int b), some (.int m), some (.int (nI i)), none], [.int b], x)) rfl ?_
      refine am_Rr.ret (v := some (.int b)) (x := x) rfl (by trivial) ?_
      first | exact ⟨rfl, rfl⟩ | (exfalso; simp only [Int32.lt_iff_toInt_lt, Int32.le_iff_toInt_le, ← Int32.toInt_inj, am_nm9, am_nm6, am_nm4, am_nm3, am_nm2, am_nm1, am_n0, am_n1, am_n2, am_n3, am_n4, am_n5, am_n6, am_n7, am_n8, am_n9, am_n10, am_n11, am_n12, am_n20, am_n35, am_n36, am_n60, am_n96, am_n99, am_n255, am_n999, am_n141] at *; omega)
    · refine am_Rr.go 6 (σ' := (26, [some (.ref 20), some (.int b), some (.int m), some (.int (nI i)), none], [.long ((1 <<< ((nI i).toInt64 &&& 63)) &&& (x.2.1 641))], x)) rfl ?_
      refine am_Rr.call (pc := 29) (ls := [some (.ref 20), some (.int b), some (.int m), some (.int (nI i)), none]) (st := []) rfl (S_beside d ((1 <<< ((nI i).toInt64 &&& 63)) &&& (x.2.1 641)) x) ?_
      rintro _ _ ⟨rfl, rfl⟩
      show am_Rr _ _ (29, [some (.ref 20), some (.int b), some (.int m), some (.int (nI i)), none], [.long (am_bes ((1 <<< ((nI i).toInt64 &&& 63)) &&& (x.2.1 641)))], x) _
      refine am_Rr.go 3 (σ' := (34, [some (.ref 20), some (.int b), some (.int m), some (.int (nI i)), none], [.long ((am_bes ((1 <<< ((nI i).toInt64 &&& 63)) &&& (x.2.1 641))) &&& (x.2.1 641))], x)) rfl ?_
      refine am_Rr.call (pc := 37) (ls := [some (.ref 20), some (.int b), some (.int m), some (.int (nI i)), none]) (st := []) rfl (S_bitCountJ (d + 1) ((am_bes ((1 <<< ((nI i).toInt64 &&& 63)) &&& (x.2.1 641))) &&& (x.2.1 641)) x) ?_
      rintro _ _ ⟨rfl, rfl⟩
      show am_Rr _ _ (37, [some (.ref 20), some (.int b), some (.int m), some (.int (nI i)), none], [.int (am_bc ((am_bes ((1 <<< ((nI i).toInt64 &&& 63)) &&& (x.2.1 641))) &&& (x.2.1 641)))], x) _
      refine am_Rr.go 3 (σ' := (if (am_bc ((am_bes ((1 <<< ((nI i).toInt64 &&& 63)) &&& (x.2.1 641))) &&& (x.2.1 641))) ≤ 0 then 55 else 44, [some (.ref 20), some (.int b), some (.int m), some (.int (nI i)), some (.int (am_bc ((am_bes ((1 <<< ((nI i).toInt64 &&& 63)) &&& (x.2.1 641))) &&& (x.2.1 641))))], [], x)) rfl ?_
      refine am_Rr.ite (fun h_4 => ?_) (fun h_4 => ?_)
      · refine am_Rr.go 2 (σ' := (12, [some (.ref 20), some (.int b), some (.int m), some (.int ((nI i) + 1)), some (.int (am_bc ((am_bes ((1 <<< ((nI i).toInt64 &&& 63)) &&& (x.2.1 641))) &&& (x.2.1 641))))], [], x)) rfl ?_
        refine am_Rr.weak (ls0 := [some (.ref 20), some (.int b), some (.int m), some (.int ((nI i) + 1)), none]) (by simp [am_le]) ?_
        first | rw [show am_feF (x.2.1 641) (n + 1) i b m = am_feF (x.2.1 641) n (i + 1) b m from if_pos (Or.inl (by assumption))] | rw [show am_feF (x.2.1 641) (n + 1) i b m = am_feF (x.2.1 641) n (i + 1) b m from if_pos (Or.inr (by assumption))] | rw [show am_feF (x.2.1 641) (n + 1) i b m = am_feF (x.2.1 641) n (i + 1) (nI i) (am_nr (x.2.1 641) i) from if_neg (by rintro (z | z) <;> exact absurd z (by assumption))]
        simp only [am_inc]
        exact ih (i + 1) _ _ (by omega)
      · refine am_Rr.go 3 (σ' := (if m ≤ (am_bc ((am_bes ((1 <<< ((nI i).toInt64 &&& 63)) &&& (x.2.1 641))) &&& (x.2.1 641))) then 55 else 50, [some (.ref 20), some (.int b), some (.int m), some (.int (nI i)), some (.int (am_bc ((am_bes ((1 <<< ((nI i).toInt64 &&& 63)) &&& (x.2.1 641))) &&& (x.2.1 641))))], [], x)) rfl ?_
        refine am_Rr.ite (fun h_5 => ?_) (fun h_5 => ?_)
        · refine am_Rr.go 2 (σ' := (12, [some (.ref 20), some (.int b), some (.int m), some (.int ((nI i) + 1)), some (.int (am_bc ((am_bes ((1 <<< ((nI i).toInt64 &&& 63)) &&& (x.2.1 641))) &&& (x.2.1 641))))], [], x)) rfl ?_
          refine am_Rr.weak (ls0 := [some (.ref 20), some (.int b), some (.int m), some (.int ((nI i) + 1)), none]) (by simp [am_le]) ?_
          first | rw [show am_feF (x.2.1 641) (n + 1) i b m = am_feF (x.2.1 641) n (i + 1) b m from if_pos (Or.inl (by assumption))] | rw [show am_feF (x.2.1 641) (n + 1) i b m = am_feF (x.2.1 641) n (i + 1) b m from if_pos (Or.inr (by assumption))] | rw [show am_feF (x.2.1 641) (n + 1) i b m = am_feF (x.2.1 641) n (i + 1) (nI i) (am_nr (x.2.1 641) i) from if_neg (by rintro (z | z) <;> exact absurd z (by assumption))]
          simp only [am_inc]
          exact ih (i + 1) _ _ (by omega)
        · refine am_Rr.go 6 (σ' := (12, [some (.ref 20), some (.int (nI i)), some (.int (am_bc ((am_bes ((1 <<< ((nI i).toInt64 &&& 63)) &&& (x.2.1 641))) &&& (x.2.1 641)))), some (.int ((nI i) + 1)), some (.int (am_bc ((am_bes ((1 <<< ((nI i).toInt64 &&& 63)) &&& (x.2.1 641))) &&& (x.2.1 641))))], [], x)) rfl ?_
          refine am_Rr.weak (ls0 := [some (.ref 20), some (.int (nI i)), some (.int (am_bc ((am_bes ((1 <<< ((nI i).toInt64 &&& 63)) &&& (x.2.1 641))) &&& (x.2.1 641)))), some (.int ((nI i) + 1)), none]) (by simp [am_le]) ?_
          first | rw [show am_feF (x.2.1 641) (n + 1) i b m = am_feF (x.2.1 641) n (i + 1) b m from if_pos (Or.inl (by assumption))] | rw [show am_feF (x.2.1 641) (n + 1) i b m = am_feF (x.2.1 641) n (i + 1) b m from if_pos (Or.inr (by assumption))] | rw [show am_feF (x.2.1 641) (n + 1) i b m = am_feF (x.2.1 641) n (i + 1) (nI i) (am_nr (x.2.1 641) i) from if_neg (by rintro (z | z) <;> exact absurd z (by assumption))]
          simp only [am_inc]
          exact ih (i + 1) _ _ (by omega)
theorem S_withFewestBeside (d : Nat) (x : am_X) : am_T (d + 4) mX2_withFewestBeside [.ref 20] x (fun ro x' => x = x' ∧ ro = some (.int (am_fe (x.2.1 641)))) := by
  refine am_T.of rfl ?_
  show am_Rr _ kX2_withFewestBeside (0, [some (.ref 20), none, none, none, none], [], x) _
  refine am_Rr.go 2 (σ' := (4, [some (.ref 20), none, none, none, none], [.long (x.2.1 641)], x)) rfl ?_
  refine am_Rr.call (pc := 7) (ls := [some (.ref 20), none, none, none, none]) (st := []) rfl (S_least d (x.2.1 641) x) ?_
  rintro _ _ ⟨rfl, rfl⟩
  show am_Rr _ _ (7, [some (.ref 20), none, none, none, none], [.int (am_least (x.2.1 641))], x) _
  refine am_Rr.go 5 (σ' := (12, [some (.ref 20), some (.int (am_least (x.2.1 641))), some (.int 5), some (.int 0), none], [], x)) rfl ?_
  exact L_withFewestBeside d x 36 0 _ _ rfl
def am_cho (st : Nat → Int64) (s rd : Int64) (k e : Int32) : Int32 := if e = 1 then am_ne s (am_sta st k) else if e = 2 then am_mo s else if e = 3 then am_fe s else if e = 4 then am_ne s (am_gA st rd k) else am_least s
set_option maxRecDepth 100000 in
theorem S_choice (d : Nat) (k e : Int32) (x : am_X) : am_T (d + 5) mX2_choice [.ref 20, .ref 1, .int k, .int e] x (fun ro x' => x = x' ∧ ro = some (.int (am_cho (x.2.2.2 21) (x.2.1 641) (am_sqo (x.2.2.2 2) 5) k e))) := by
  refine am_T.of rfl ?_
  show am_Rr _ kX2_choice (0, [some (.ref 20), some (.ref 1), some (.int k), some (.int e)], [], x) _
  refine am_Rr.go 2 (σ' := ((if e = 1 then 32 else (if e = 2 then 42 else (if e = 3 then 47 else (if e = 4 then 52 else 67)))), [some (.ref 20), some (.ref 1), some (.int k), some (.int e)], [], x)) rfl ?_
  refine am_Rr.ite (fun h_1 => ?_) (fun h_1 => ?_)
  · refine am_Rr.go 3 (σ' := (35, [some (.ref 20), some (.ref 1), some (.int k), some (.int e)], [.int k, .ref 20, .ref 20], x)) rfl ?_
    refine am_Rr.call (pc := 38) (ls := [some (.ref 20), some (.ref 1), some (.int k), some (.int e)]) (st := [.ref 20]) rfl (S_standOf (d + 2) k x) ?_
    rintro _ _ ⟨rfl, rfl⟩
    show am_Rr _ _ (38, [some (.ref 20), some (.ref 1), some (.int k), some (.int e)], [.long (am_sta (x.2.2.2 21) k), .ref 20], x) _
    refine am_Rr.call (pc := 41) (ls := [some (.ref 20), some (.ref 1), some (.int k), some (.int e)]) (st := []) rfl (S_nearest d (am_sta (x.2.2.2 21) k) x) ?_
    rintro _ _ ⟨rfl, rfl⟩
    show am_Rr _ _ (41, [some (.ref 20), some (.ref 1), some (.int k), some (.int e)], [.int (am_ne (x.2.1 641) (am_sta (x.2.2.2 21) k))], x) _
    refine am_Rr.ret (v := some (.int (am_ne (x.2.1 641) (am_sta (x.2.2.2 21) k)))) (x := x) rfl (by trivial) ?_
    exact ⟨rfl, by unfold am_cho; first | rw [if_pos (by assumption)] | (rw [if_neg (by assumption)]; first | rw [if_pos (by assumption)] | (rw [if_neg (by assumption)]; first | rw [if_pos (by assumption)] | (rw [if_neg (by assumption)]; first | rw [if_pos (by assumption)] | rw [if_neg (by assumption)])))⟩
  refine am_Rr.ite (fun h_4 => ?_) (fun h_4 => ?_)
  · refine am_Rr.go 1 (σ' := (43, [some (.ref 20), some (.ref 1), some (.int k), some (.int e)], [.ref 20], x)) rfl ?_
    refine am_Rr.call (pc := 46) (ls := [some (.ref 20), some (.ref 1), some (.int k), some (.int e)]) (st := []) rfl (S_withMostBeside d  x) ?_
    rintro _ _ ⟨rfl, rfl⟩
    show am_Rr _ _ (46, [some (.ref 20), some (.ref 1), some (.int k), some (.int e)], [.int (am_mo (x.2.1 641))], x) _
    refine am_Rr.ret (v := some (.int (am_mo (x.2.1 641)))) (x := x) rfl (by trivial) ?_
    exact ⟨rfl, by unfold am_cho; first | rw [if_pos (by assumption)] | (rw [if_neg (by assumption)]; first | rw [if_pos (by assumption)] | (rw [if_neg (by assumption)]; first | rw [if_pos (by assumption)] | (rw [if_neg (by assumption)]; first | rw [if_pos (by assumption)] | rw [if_neg (by assumption)])))⟩
  refine am_Rr.ite (fun h_6 => ?_) (fun h_6 => ?_)
  · refine am_Rr.go 1 (σ' := (48, [some (.ref 20), some (.ref 1), some (.int k), some (.int e)], [.ref 20], x)) rfl ?_
    refine am_Rr.call (pc := 51) (ls := [some (.ref 20), some (.ref 1), some (.int k), some (.int e)]) (st := []) rfl (S_withFewestBeside d  x) ?_
    rintro _ _ ⟨rfl, rfl⟩
    show am_Rr _ _ (51, [some (.ref 20), some (.ref 1), some (.int k), some (.int e)], [.int (am_fe (x.2.1 641))], x) _
    refine am_Rr.ret (v := some (.int (am_fe (x.2.1 641)))) (x := x) rfl (by trivial) ?_
    exact ⟨rfl, by unfold am_cho; first | rw [if_pos (by assumption)] | (rw [if_neg (by assumption)]; first | rw [if_pos (by assumption)] | (rw [if_neg (by assumption)]; first | rw [if_pos (by assumption)] | (rw [if_neg (by assumption)]; first | rw [if_pos (by assumption)] | rw [if_neg (by assumption)])))⟩
  refine am_Rr.ite (fun h_8 => ?_) (fun h_8 => ?_)
  · refine am_Rr.go 4 (σ' := (56, [some (.ref 20), some (.ref 1), some (.int k), some (.int e)], [.int 5, .ref 1, .ref 20, .ref 20], x)) rfl ?_
    refine am_Rr.call (pc := 59) (ls := [some (.ref 20), some (.ref 1), some (.int k), some (.int e)]) (st := [.ref 20, .ref 20]) rfl (S_squaresOf_1 (d + 2) (5 : Int32) x) ?_
    rintro _ _ ⟨rfl, rfl⟩
    show am_Rr _ _ (59, [some (.ref 20), some (.ref 1), some (.int k), some (.int e)], [.long (am_sqo (x.2.2.2 2) (5 : Int32)), .ref 20, .ref 20], x) _
    refine am_Rr.go 1 (σ' := (60, [some (.ref 20), some (.ref 1), some (.int k), some (.int e)], [.int k, .long (am_sqo (x.2.2.2 2) (5 : Int32)), .ref 20, .ref 20], x)) rfl ?_
    refine am_Rr.call (pc := 63) (ls := [some (.ref 20), some (.ref 1), some (.int k), some (.int e)]) (st := [.ref 20]) rfl (S_goalAhead (d + 1) (am_sqo (x.2.2.2 2) (5 : Int32)) k x) ?_
    rintro _ _ ⟨rfl, rfl⟩
    show am_Rr _ _ (63, [some (.ref 20), some (.ref 1), some (.int k), some (.int e)], [.long (am_gA (x.2.2.2 21) (am_sqo (x.2.2.2 2) (5 : Int32)) k), .ref 20], x) _
    refine am_Rr.call (pc := 66) (ls := [some (.ref 20), some (.ref 1), some (.int k), some (.int e)]) (st := []) rfl (S_nearest d (am_gA (x.2.2.2 21) (am_sqo (x.2.2.2 2) (5 : Int32)) k) x) ?_
    rintro _ _ ⟨rfl, rfl⟩
    show am_Rr _ _ (66, [some (.ref 20), some (.ref 1), some (.int k), some (.int e)], [.int (am_ne (x.2.1 641) (am_gA (x.2.2.2 21) (am_sqo (x.2.2.2 2) (5 : Int32)) k))], x) _
    refine am_Rr.ret (v := some (.int (am_ne (x.2.1 641) (am_gA (x.2.2.2 21) (am_sqo (x.2.2.2 2) (5 : Int32)) k)))) (x := x) rfl (by trivial) ?_
    exact ⟨rfl, by unfold am_cho; first | rw [if_pos (by assumption)] | (rw [if_neg (by assumption)]; first | rw [if_pos (by assumption)] | (rw [if_neg (by assumption)]; first | rw [if_pos (by assumption)] | (rw [if_neg (by assumption)]; first | rw [if_pos (by assumption)] | rw [if_neg (by assumption)])))⟩
  refine am_Rr.go 2 (σ' := (71, [some (.ref 20), some (.ref 1), some (.int k), some (.int e)], [.long (x.2.1 641)], x)) rfl ?_
  refine am_Rr.call (pc := 74) (ls := [some (.ref 20), some (.ref 1), some (.int k), some (.int e)]) (st := []) rfl (S_least (d + 1) (x.2.1 641) x) ?_
  rintro _ _ ⟨rfl, rfl⟩
  show am_Rr _ _ (74, [some (.ref 20), some (.ref 1), some (.int k), some (.int e)], [.int (am_least (x.2.1 641))], x) _
  refine am_Rr.ret (v := some (.int (am_least (x.2.1 641)))) (x := x) rfl (by trivial) ?_
  exact ⟨rfl, by unfold am_cho; first | rw [if_pos (by assumption)] | (rw [if_neg (by assumption)]; first | rw [if_pos (by assumption)] | (rw [if_neg (by assumption)]; first | rw [if_pos (by assumption)] | (rw [if_neg (by assumption)]; first | rw [if_pos (by assumption)] | rw [if_neg (by assumption)])))⟩
def am_chx (x : am_X) (k e : Int32) : Int32 := am_cho (x.2.2.2 21) (x.2.1 641) (am_sqo (x.2.2.2 2) 5) k e
def am_skx (x : am_X) (k e : Int32) : am_X := if (e = 1 ∨ e = 4) ∧ (0 ≤ (am_chx x k e).toInt ∧ (am_chx x k e).toInt < 36) ∧ 0 ≤ k.toInt ∧ k.toInt < 3 then am_sB (am_lkx x (am_chx x k e)) 21 (vp_updL (x.2.2.2 21) k.toNatClampNeg (am_bit (am_chx x k e))) else am_lkx x (am_chx x k e)
theorem S_seek (d : Nat) (k e : Int32) (x : am_X) : am_T (d + 6) mX2_seek [.ref 20, .ref 1, .int k, .int e] x (fun o x' => o = none ∧ am_skx x k e = x') := by
  refine am_T.of rfl ?_
  show am_Rr _ kX2_seek (0, [some (.ref 20), some (.ref 1), some (.int k), some (.int e), none, none], [], x) _
  refine am_Rr.go 4 (σ' := (4, [some (.ref 20), some (.ref 1), some (.int k), some (.int e), none, none], [.int e, .int k, .ref 1, .ref 20], x)) rfl ?_
  refine am_Rr.call (pc := 7) (ls := [some (.ref 20), some (.ref 1), some (.int k), some (.int e), none, none]) (st := []) rfl (S_choice d k e x) ?_
  rintro _ _ ⟨rfl, rfl⟩
  show am_Rr _ _ (7, [some (.ref 20), some (.ref 1), some (.int k), some (.int e), none, none], [.int (am_cho (x.2.2.2 21) (x.2.1 641) (am_sqo (x.2.2.2 2) 5) k e)], x) _
  refine am_Rr.go 4 (σ' := (13, [some (.ref 20), some (.ref 1), some (.int k), some (.int e), some (.int (am_cho (x.2.2.2 21) (x.2.1 641) (am_sqo (x.2.2.2 2) 5) k e)), none], [.int (am_cho (x.2.2.2 21) (x.2.1 641) (am_sqo (x.2.2.2 2) 5) k e), .ref 1, .ref 20], x)) rfl ?_
  refine am_Rr.call (pc := 16) (ls := [some (.ref 20), some (.ref 1), some (.int k), some (.int e), some (.int (am_cho (x.2.2.2 21) (x.2.1 641) (am_sqo (x.2.2.2 2) 5) k e)), none]) (st := []) rfl (S_look (d + 1) (am_cho (x.2.2.2 21) (x.2.1 641) (am_sqo (x.2.2.2 2) 5) k e) x) ?_
  rintro _ _ ⟨rfl, rfl⟩
  show am_Rr _ _ (16, [some (.ref 20), some (.ref 1), some (.int k), some (.int e), some (.int (am_cho (x.2.2.2 21) (x.2.1 641) (am_sqo (x.2.2.2 2) 5) k e)), none], [], (am_lkx x (am_cho (x.2.2.2 21) (x.2.1 641) (am_sqo (x.2.2.2 2) 5) k e))) _
  refine am_Rr.go 3 (σ' := (if e = 1 then 26 else 21, [some (.ref 20), some (.ref 1), some (.int k), some (.int e), some (.int (am_cho (x.2.2.2 21) (x.2.1 641) (am_sqo (x.2.2.2 2) 5) k e)), none], [], (am_lkx x (am_cho (x.2.2.2 21) (x.2.1 641) (am_sqo (x.2.2.2 2) 5) k e)))) rfl ?_
  refine am_Rr.ite (fun h_3 => ?_) (fun h_3 => ?_)
  · refine am_Rr.go 6 (σ' := (40, [some (.ref 20), some (.ref 1), some (.int k), some (.int e), some (.int (am_cho (x.2.2.2 21) (x.2.1 641) (am_sqo (x.2.2.2 2) 5) k e)), some (.int 1)], [.int (am_cho (x.2.2.2 21) (x.2.1 641) (am_sqo (x.2.2.2 2) 5) k e)], (am_lkx x (am_cho (x.2.2.2 21) (x.2.1 641) (am_sqo (x.2.2.2 2) 5) k e)))) rfl ?_
    refine am_Rr.call (pc := 43) (ls := [some (.ref 20), some (.ref 1), some (.int k), some (.int e), some (.int (am_cho (x.2.2.2 21) (x.2.1 641) (am_sqo (x.2.2.2 2) 5) k e)), some (.int 1)]) (st := []) rfl (S_isSquare (d + 3) (am_cho (x.2.2.2 21) (x.2.1 641) (am_sqo (x.2.2.2 2) 5) k e) (am_lkx x (am_cho (x.2.2.2 21) (x.2.1 641) (am_sqo (x.2.2.2 2) 5) k e))) ?_
    rintro _ _ ⟨rfl, (⟨rfl, b_4⟩ | ⟨rfl, b_4⟩)⟩
    · show am_Rr _ _ (43, [some (.ref 20), some (.ref 1), some (.int k), some (.int e), some (.int (am_cho (x.2.2.2 21) (x.2.1 641) (am_sqo (x.2.2.2 2) 5) k e)), some (.int 1)], [.int 1], (am_lkx x (am_cho (x.2.2.2 21) (x.2.1 641) (am_sqo (x.2.2.2 2) 5) k e))) _
      refine am_Rr.go 3 (σ' := (if k < 0 then 70 else 50, [some (.ref 20), some (.ref 1), some (.int k), some (.int e), some (.int (am_cho (x.2.2.2 21) (x.2.1 641) (am_sqo (x.2.2.2 2) 5) k e)), some (.int 1)], [], (am_lkx x (am_cho (x.2.2.2 21) (x.2.1 641) (am_sqo (x.2.2.2 2) 5) k e)))) rfl ?_
      refine am_Rr.ite (fun h_6 => ?_) (fun h_6 => ?_)
      · refine am_Rr.ret (v := none) (x := (am_lkx x (am_cho (x.2.2.2 21) (x.2.1 641) (am_sqo (x.2.2.2 2) 5) k e))) rfl (by trivial) ?_
        refine ⟨rfl, ?_⟩
        unfold am_skx
        first | (rw [if_pos (by unfold am_sq at *; refine ⟨?_, by assumption, ?_, ?_⟩; (first | exact Or.inl (by assumption) | exact Or.inr (by assumption)); all_goals (simp only [Int32.lt_iff_toInt_lt, Int32.le_iff_toInt_le, ← Int32.toInt_inj, am_nm9, am_nm6, am_nm4, am_nm3, am_nm2, am_nm1, am_n0, am_n1, am_n2, am_n3, am_n4, am_n5, am_n6, am_n7, am_n8, am_n9, am_n10, am_n11, am_n12, am_n20, am_n35, am_n36, am_n60, am_n96, am_n99, am_n255, am_n999] at *; omega))]; rfl) | (rw [if_neg (by (try unfold am_sq at *); rintro ⟨z1, z2, z3, z4⟩; first | exact absurd z2 (by assumption) | (rcases z1 with z1 | z1 <;> exact absurd z1 (by assumption)) | (simp only [Int32.lt_iff_toInt_lt, Int32.le_iff_toInt_le, ← Int32.toInt_inj, am_nm9, am_nm6, am_nm4, am_nm3, am_nm2, am_nm1, am_n0, am_n1, am_n2, am_n3, am_n4, am_n5, am_n6, am_n7, am_n8, am_n9, am_n10, am_n11, am_n12, am_n20, am_n35, am_n36, am_n60, am_n96, am_n99, am_n255, am_n999] at *; omega))]; rfl)
      · refine am_Rr.go 5 (σ' := (if (3 : Int32) ≤ k then 70 else 59, [some (.ref 20), some (.ref 1), some (.int k), some (.int e), some (.int (am_cho (x.2.2.2 21) (x.2.1 641) (am_sqo (x.2.2.2 2) 5) k e)), some (.int 1)], [], (am_lkx x (am_cho (x.2.2.2 21) (x.2.1 641) (am_sqo (x.2.2.2 2) 5) k e)))) rfl ?_
        refine am_Rr.ite (fun h_7 => ?_) (fun h_7 => ?_)
        · refine am_Rr.ret (v := none) (x := (am_lkx x (am_cho (x.2.2.2 21) (x.2.1 641) (am_sqo (x.2.2.2 2) 5) k e))) rfl (by trivial) ?_
          refine ⟨rfl, ?_⟩
          unfold am_skx
          first | (rw [if_pos (by unfold am_sq at *; refine ⟨?_, by assumption, ?_, ?_⟩; (first | exact Or.inl (by assumption) | exact Or.inr (by assumption)); all_goals (simp only [Int32.lt_iff_toInt_lt, Int32.le_iff_toInt_le, ← Int32.toInt_inj, am_nm9, am_nm6, am_nm4, am_nm3, am_nm2, am_nm1, am_n0, am_n1, am_n2, am_n3, am_n4, am_n5, am_n6, am_n7, am_n8, am_n9, am_n10, am_n11, am_n12, am_n20, am_n35, am_n36, am_n60, am_n96, am_n99, am_n255, am_n999] at *; omega))]; rfl) | (rw [if_neg (by (try unfold am_sq at *); rintro ⟨z1, z2, z3, z4⟩; first | exact absurd z2 (by assumption) | (rcases z1 with z1 | z1 <;> exact absurd z1 (by assumption)) | (simp only [Int32.lt_iff_toInt_lt, Int32.le_iff_toInt_le, ← Int32.toInt_inj, am_nm9, am_nm6, am_nm4, am_nm3, am_nm2, am_nm1, am_n0, am_n1, am_n2, am_n3, am_n4, am_n5, am_n6, am_n7, am_n8, am_n9, am_n10, am_n11, am_n12, am_n20, am_n35, am_n36, am_n60, am_n96, am_n99, am_n255, am_n999] at *; omega))]; rfl)
        · refine am_Rr.go 4 (σ' := (66, [some (.ref 20), some (.ref 1), some (.int k), some (.int e), some (.int (am_cho (x.2.2.2 21) (x.2.1 641) (am_sqo (x.2.2.2 2) 5) k e)), some (.int 1)], [.int (am_cho (x.2.2.2 21) (x.2.1 641) (am_sqo (x.2.2.2 2) 5) k e), .int k, .ref 21], (am_lkx x (am_cho (x.2.2.2 21) (x.2.1 641) (am_sqo (x.2.2.2 2) 5) k e)))) rfl ?_
          refine am_Rr.call (pc := 69) (ls := [some (.ref 20), some (.ref 1), some (.int k), some (.int e), some (.int (am_cho (x.2.2.2 21) (x.2.1 641) (am_sqo (x.2.2.2 2) 5) k e)), some (.int 1)]) (st := [.int k, .ref 21]) rfl (S_bit (d + 2) (am_cho (x.2.2.2 21) (x.2.1 641) (am_sqo (x.2.2.2 2) 5) k e) (am_lkx x (am_cho (x.2.2.2 21) (x.2.1 641) (am_sqo (x.2.2.2 2) 5) k e))) ?_
          rintro _ _ ⟨rfl, rfl⟩
          show am_Rr _ _ (69, [some (.ref 20), some (.ref 1), some (.int k), some (.int e), some (.int (am_cho (x.2.2.2 21) (x.2.1 641) (am_sqo (x.2.2.2 2) 5) k e)), some (.int 1)], [.long (am_bit (am_cho (x.2.2.2 21) (x.2.1 641) (am_sqo (x.2.2.2 2) 5) k e)), .int k, .ref 21], (am_lkx x (am_cho (x.2.2.2 21) (x.2.1 641) (am_sqo (x.2.2.2 2) 5) k e))) _
          refine am_Rr.chk (σ' := (70, [some (.ref 20), some (.ref 1), some (.int k), some (.int e), some (.int (am_cho (x.2.2.2 21) (x.2.1 641) (am_sqo (x.2.2.2 2) 5) k e)), some (.int 1)], [], (am_sB (am_lkx x (am_cho (x.2.2.2 21) (x.2.1 641) (am_sqo (x.2.2.2 2) 5) k e)) 21 (vp_updL ((am_lkx x (am_cho (x.2.2.2 21) (x.2.1 641) (am_sqo (x.2.2.2 2) 5) k e)).2.2.2 21) k.toNatClampNeg (am_bit (am_cho (x.2.2.2 21) (x.2.1 641) (am_sqo (x.2.2.2 2) 5) k e)))))) rfl (by rw [vp_in_iff]; simp only [Int32.lt_iff_toInt_lt, Int32.le_iff_toInt_le, ← Int32.toInt_inj, am_nm9, am_nm6, am_nm4, am_nm3, am_nm2, am_nm1, am_n0, am_n1, am_n2, am_n3, am_n4, am_n5, am_n6, am_n7, am_n8, am_n9, am_n10, am_n11, am_n12, am_n20, am_n35, am_n36, am_n60, am_n96, am_n99, am_n255, am_n999] at *; omega) ?_
          refine am_Rr.ret (v := none) (x := (am_sB (am_lkx x (am_cho (x.2.2.2 21) (x.2.1 641) (am_sqo (x.2.2.2 2) 5) k e)) 21 (vp_updL ((am_lkx x (am_cho (x.2.2.2 21) (x.2.1 641) (am_sqo (x.2.2.2 2) 5) k e)).2.2.2 21) k.toNatClampNeg (am_bit (am_cho (x.2.2.2 21) (x.2.1 641) (am_sqo (x.2.2.2 2) 5) k e))))) rfl (by trivial) ?_
          refine ⟨rfl, ?_⟩
          unfold am_skx
          first | (rw [if_pos (by unfold am_sq at *; refine ⟨?_, by assumption, ?_, ?_⟩; (first | exact Or.inl (by assumption) | exact Or.inr (by assumption)); all_goals (simp only [Int32.lt_iff_toInt_lt, Int32.le_iff_toInt_le, ← Int32.toInt_inj, am_nm9, am_nm6, am_nm4, am_nm3, am_nm2, am_nm1, am_n0, am_n1, am_n2, am_n3, am_n4, am_n5, am_n6, am_n7, am_n8, am_n9, am_n10, am_n11, am_n12, am_n20, am_n35, am_n36, am_n60, am_n96, am_n99, am_n255, am_n999] at *; omega))]; rfl) | (rw [if_neg (by (try unfold am_sq at *); rintro ⟨z1, z2, z3, z4⟩; first | exact absurd z2 (by assumption) | (rcases z1 with z1 | z1 <;> exact absurd z1 (by assumption)) | (simp only [Int32.lt_iff_toInt_lt, Int32.le_iff_toInt_le, ← Int32.toInt_inj, am_nm9, am_nm6, am_nm4, am_nm3, am_nm2, am_nm1, am_n0, am_n1, am_n2, am_n3, am_n4, am_n5, am_n6, am_n7, am_n8, am_n9, am_n10, am_n11, am_n12, am_n20, am_n35, am_n36, am_n60, am_n96, am_n99, am_n255, am_n999] at *; omega))]; rfl)
    · show am_Rr _ _ (43, [some (.ref 20), some (.ref 1), some (.int k), some (.int e), some (.int (am_cho (x.2.2.2 21) (x.2.1 641) (am_sqo (x.2.2.2 2) 5) k e)), some (.int 1)], [.int 0], (am_lkx x (am_cho (x.2.2.2 21) (x.2.1 641) (am_sqo (x.2.2.2 2) 5) k e))) _
      refine am_Rr.go 1 (σ' := (70, [some (.ref 20), some (.ref 1), some (.int k), some (.int e), some (.int (am_cho (x.2.2.2 21) (x.2.1 641) (am_sqo (x.2.2.2 2) 5) k e)), some (.int 1)], [], (am_lkx x (am_cho (x.2.2.2 21) (x.2.1 641) (am_sqo (x.2.2.2 2) 5) k e)))) rfl ?_
      refine am_Rr.ret (v := none) (x := (am_lkx x (am_cho (x.2.2.2 21) (x.2.1 641) (am_sqo (x.2.2.2 2) 5) k e))) rfl (by trivial) ?_
      refine ⟨rfl, ?_⟩
      unfold am_skx
      first | (rw [if_pos (by unfold am_sq at *; refine ⟨?_, by assumption, ?_, ?_⟩; (first | exact Or.inl (by assumption) | exact Or.inr (by assumption)); all_goals (simp only [Int32.lt_iff_toInt_lt, Int32.le_iff_toInt_le, ← Int32.toInt_inj, am_nm9, am_nm6, am_nm4, am_nm3, am_nm2, am_nm1, am_n0, am_n1, am_n2, am_n3, am_n4, am_n5, am_n6, am_n7, am_n8, am_n9, am_n10, am_n11, am_n12, am_n20, am_n35, am_n36, am_n60, am_n96, am_n99, am_n255, am_n999] at *; omega))]; rfl) | (rw [if_neg (by (try unfold am_sq at *); rintro ⟨z1, z2, z3, z4⟩; first | exact absurd z2 (by assumption) | (rcases z1 with z1 | z1 <;> exact absurd z1 (by assumption)) | (simp only [Int32.lt_iff_toInt_lt, Int32.le_iff_toInt_le, ← Int32.toInt_inj, am_nm9, am_nm6, am_nm4, am_nm3, am_nm2, am_nm1, am_n0, am_n1, am_n2, am_n3, am_n4, am_n5, am_n6, am_n7, am_n8, am_n9, am_n10, am_n11, am_n12, am_n20, am_n35, am_n36, am_n60, am_n96, am_n99, am_n255, am_n999] at *; omega))]; rfl)
  · refine am_Rr.go 3 (σ' := (if e = 4 then 26 else 30, [some (.ref 20), some (.ref 1), some (.int k), some (.int e), some (.int (am_cho (x.2.2.2 21) (x.2.1 641) (am_sqo (x.2.2.2 2) 5) k e)), none], [], (am_lkx x (am_cho (x.2.2.2 21) (x.2.1 641) (am_sqo (x.2.2.2 2) 5) k e)))) rfl ?_
    refine am_Rr.ite (fun h_9 => ?_) (fun h_9 => ?_)
    · refine am_Rr.go 6 (σ' := (40, [some (.ref 20), some (.ref 1), some (.int k), some (.int e), some (.int (am_cho (x.2.2.2 21) (x.2.1 641) (am_sqo (x.2.2.2 2) 5) k e)), some (.int 1)], [.int (am_cho (x.2.2.2 21) (x.2.1 641) (am_sqo (x.2.2.2 2) 5) k e)], (am_lkx x (am_cho (x.2.2.2 21) (x.2.1 641) (am_sqo (x.2.2.2 2) 5) k e)))) rfl ?_
      refine am_Rr.call (pc := 43) (ls := [some (.ref 20), some (.ref 1), some (.int k), some (.int e), some (.int (am_cho (x.2.2.2 21) (x.2.1 641) (am_sqo (x.2.2.2 2) 5) k e)), some (.int 1)]) (st := []) rfl (S_isSquare (d + 3) (am_cho (x.2.2.2 21) (x.2.1 641) (am_sqo (x.2.2.2 2) 5) k e) (am_lkx x (am_cho (x.2.2.2 21) (x.2.1 641) (am_sqo (x.2.2.2 2) 5) k e))) ?_
      rintro _ _ ⟨rfl, (⟨rfl, b_10⟩ | ⟨rfl, b_10⟩)⟩
      · show am_Rr _ _ (43, [some (.ref 20), some (.ref 1), some (.int k), some (.int e), some (.int (am_cho (x.2.2.2 21) (x.2.1 641) (am_sqo (x.2.2.2 2) 5) k e)), some (.int 1)], [.int 1], (am_lkx x (am_cho (x.2.2.2 21) (x.2.1 641) (am_sqo (x.2.2.2 2) 5) k e))) _
        refine am_Rr.go 3 (σ' := (if k < 0 then 70 else 50, [some (.ref 20), some (.ref 1), some (.int k), some (.int e), some (.int (am_cho (x.2.2.2 21) (x.2.1 641) (am_sqo (x.2.2.2 2) 5) k e)), some (.int 1)], [], (am_lkx x (am_cho (x.2.2.2 21) (x.2.1 641) (am_sqo (x.2.2.2 2) 5) k e)))) rfl ?_
        refine am_Rr.ite (fun h_12 => ?_) (fun h_12 => ?_)
        · refine am_Rr.ret (v := none) (x := (am_lkx x (am_cho (x.2.2.2 21) (x.2.1 641) (am_sqo (x.2.2.2 2) 5) k e))) rfl (by trivial) ?_
          refine ⟨rfl, ?_⟩
          unfold am_skx
          first | (rw [if_pos (by unfold am_sq at *; refine ⟨?_, by assumption, ?_, ?_⟩; (first | exact Or.inl (by assumption) | exact Or.inr (by assumption)); all_goals (simp only [Int32.lt_iff_toInt_lt, Int32.le_iff_toInt_le, ← Int32.toInt_inj, am_nm9, am_nm6, am_nm4, am_nm3, am_nm2, am_nm1, am_n0, am_n1, am_n2, am_n3, am_n4, am_n5, am_n6, am_n7, am_n8, am_n9, am_n10, am_n11, am_n12, am_n20, am_n35, am_n36, am_n60, am_n96, am_n99, am_n255, am_n999] at *; omega))]; rfl) | (rw [if_neg (by (try unfold am_sq at *); rintro ⟨z1, z2, z3, z4⟩; first | exact absurd z2 (by assumption) | (rcases z1 with z1 | z1 <;> exact absurd z1 (by assumption)) | (simp only [Int32.lt_iff_toInt_lt, Int32.le_iff_toInt_le, ← Int32.toInt_inj, am_nm9, am_nm6, am_nm4, am_nm3, am_nm2, am_nm1, am_n0, am_n1, am_n2, am_n3, am_n4, am_n5, am_n6, am_n7, am_n8, am_n9, am_n10, am_n11, am_n12, am_n20, am_n35, am_n36, am_n60, am_n96, am_n99, am_n255, am_n999] at *; omega))]; rfl)
        · refine am_Rr.go 5 (σ' := (if (3 : Int32) ≤ k then 70 else 59, [some (.ref 20), some (.ref 1), some (.int k), some (.int e), some (.int (am_cho (x.2.2.2 21) (x.2.1 641) (am_sqo (x.2.2.2 2) 5) k e)), some (.int 1)], [], (am_lkx x (am_cho (x.2.2.2 21) (x.2.1 641) (am_sqo (x.2.2.2 2) 5) k e)))) rfl ?_
          refine am_Rr.ite (fun h_13 => ?_) (fun h_13 => ?_)
          · refine am_Rr.ret (v := none) (x := (am_lkx x (am_cho (x.2.2.2 21) (x.2.1 641) (am_sqo (x.2.2.2 2) 5) k e))) rfl (by trivial) ?_
            refine ⟨rfl, ?_⟩
            unfold am_skx
            first | (rw [if_pos (by unfold am_sq at *; refine ⟨?_, by assumption, ?_, ?_⟩; (first | exact Or.inl (by assumption) | exact Or.inr (by assumption)); all_goals (simp only [Int32.lt_iff_toInt_lt, Int32.le_iff_toInt_le, ← Int32.toInt_inj, am_nm9, am_nm6, am_nm4, am_nm3, am_nm2, am_nm1, am_n0, am_n1, am_n2, am_n3, am_n4, am_n5, am_n6, am_n7, am_n8, am_n9, am_n10, am_n11, am_n12, am_n20, am_n35, am_n36, am_n60, am_n96, am_n99, am_n255, am_n999] at *; omega))]; rfl) | (rw [if_neg (by (try unfold am_sq at *); rintro ⟨z1, z2, z3, z4⟩; first | exact absurd z2 (by assumption) | (rcases z1 with z1 | z1 <;> exact absurd z1 (by assumption)) | (simp only [Int32.lt_iff_toInt_lt, Int32.le_iff_toInt_le, ← Int32.toInt_inj, am_nm9, am_nm6, am_nm4, am_nm3, am_nm2, am_nm1, am_n0, am_n1, am_n2, am_n3, am_n4, am_n5, am_n6, am_n7, am_n8, am_n9, am_n10, am_n11, am_n12, am_n20, am_n35, am_n36, am_n60, am_n96, am_n99, am_n255, am_n999] at *; omega))]; rfl)
          · refine am_Rr.go 4 (σ' := (66, [some (.ref 20), some (.ref 1), some (.int k), some (.int e), some (.int (am_cho (x.2.2.2 21) (x.2.1 641) (am_sqo (x.2.2.2 2) 5) k e)), some (.int 1)], [.int (am_cho (x.2.2.2 21) (x.2.1 641) (am_sqo (x.2.2.2 2) 5) k e), .int k, .ref 21], (am_lkx x (am_cho (x.2.2.2 21) (x.2.1 641) (am_sqo (x.2.2.2 2) 5) k e)))) rfl ?_
            refine am_Rr.call (pc := 69) (ls := [some (.ref 20), some (.ref 1), some (.int k), some (.int e), some (.int (am_cho (x.2.2.2 21) (x.2.1 641) (am_sqo (x.2.2.2 2) 5) k e)), some (.int 1)]) (st := [.int k, .ref 21]) rfl (S_bit (d + 2) (am_cho (x.2.2.2 21) (x.2.1 641) (am_sqo (x.2.2.2 2) 5) k e) (am_lkx x (am_cho (x.2.2.2 21) (x.2.1 641) (am_sqo (x.2.2.2 2) 5) k e))) ?_
            rintro _ _ ⟨rfl, rfl⟩
            show am_Rr _ _ (69, [some (.ref 20), some (.ref 1), some (.int k), some (.int e), some (.int (am_cho (x.2.2.2 21) (x.2.1 641) (am_sqo (x.2.2.2 2) 5) k e)), some (.int 1)], [.long (am_bit (am_cho (x.2.2.2 21) (x.2.1 641) (am_sqo (x.2.2.2 2) 5) k e)), .int k, .ref 21], (am_lkx x (am_cho (x.2.2.2 21) (x.2.1 641) (am_sqo (x.2.2.2 2) 5) k e))) _
            refine am_Rr.chk (σ' := (70, [some (.ref 20), some (.ref 1), some (.int k), some (.int e), some (.int (am_cho (x.2.2.2 21) (x.2.1 641) (am_sqo (x.2.2.2 2) 5) k e)), some (.int 1)], [], (am_sB (am_lkx x (am_cho (x.2.2.2 21) (x.2.1 641) (am_sqo (x.2.2.2 2) 5) k e)) 21 (vp_updL ((am_lkx x (am_cho (x.2.2.2 21) (x.2.1 641) (am_sqo (x.2.2.2 2) 5) k e)).2.2.2 21) k.toNatClampNeg (am_bit (am_cho (x.2.2.2 21) (x.2.1 641) (am_sqo (x.2.2.2 2) 5) k e)))))) rfl (by rw [vp_in_iff]; simp only [Int32.lt_iff_toInt_lt, Int32.le_iff_toInt_le, ← Int32.toInt_inj, am_nm9, am_nm6, am_nm4, am_nm3, am_nm2, am_nm1, am_n0, am_n1, am_n2, am_n3, am_n4, am_n5, am_n6, am_n7, am_n8, am_n9, am_n10, am_n11, am_n12, am_n20, am_n35, am_n36, am_n60, am_n96, am_n99, am_n255, am_n999] at *; omega) ?_
            refine am_Rr.ret (v := none) (x := (am_sB (am_lkx x (am_cho (x.2.2.2 21) (x.2.1 641) (am_sqo (x.2.2.2 2) 5) k e)) 21 (vp_updL ((am_lkx x (am_cho (x.2.2.2 21) (x.2.1 641) (am_sqo (x.2.2.2 2) 5) k e)).2.2.2 21) k.toNatClampNeg (am_bit (am_cho (x.2.2.2 21) (x.2.1 641) (am_sqo (x.2.2.2 2) 5) k e))))) rfl (by trivial) ?_
            refine ⟨rfl, ?_⟩
            unfold am_skx
            first | (rw [if_pos (by unfold am_sq at *; refine ⟨?_, by assumption, ?_, ?_⟩; (first | exact Or.inl (by assumption) | exact Or.inr (by assumption)); all_goals (simp only [Int32.lt_iff_toInt_lt, Int32.le_iff_toInt_le, ← Int32.toInt_inj, am_nm9, am_nm6, am_nm4, am_nm3, am_nm2, am_nm1, am_n0, am_n1, am_n2, am_n3, am_n4, am_n5, am_n6, am_n7, am_n8, am_n9, am_n10, am_n11, am_n12, am_n20, am_n35, am_n36, am_n60, am_n96, am_n99, am_n255, am_n999] at *; omega))]; rfl) | (rw [if_neg (by (try unfold am_sq at *); rintro ⟨z1, z2, z3, z4⟩; first | exact absurd z2 (by assumption) | (rcases z1 with z1 | z1 <;> exact absurd z1 (by assumption)) | (simp only [Int32.lt_iff_toInt_lt, Int32.le_iff_toInt_le, ← Int32.toInt_inj, am_nm9, am_nm6, am_nm4, am_nm3, am_nm2, am_nm1, am_n0, am_n1, am_n2, am_n3, am_n4, am_n5, am_n6, am_n7, am_n8, am_n9, am_n10, am_n11, am_n12, am_n20, am_n35, am_n36, am_n60, am_n96, am_n99, am_n255, am_n999] at *; omega))]; rfl)
      · show am_Rr _ _ (43, [some (.ref 20), some (.ref 1), some (.int k), some (.int e), some (.int (am_cho (x.2.2.2 21) (x.2.1 641) (am_sqo (x.2.2.2 2) 5) k e)), some (.int 1)], [.int 0], (am_lkx x (am_cho (x.2.2.2 21) (x.2.1 641) (am_sqo (x.2.2.2 2) 5) k e))) _
        refine am_Rr.go 1 (σ' := (70, [some (.ref 20), some (.ref 1), some (.int k), some (.int e), some (.int (am_cho (x.2.2.2 21) (x.2.1 641) (am_sqo (x.2.2.2 2) 5) k e)), some (.int 1)], [], (am_lkx x (am_cho (x.2.2.2 21) (x.2.1 641) (am_sqo (x.2.2.2 2) 5) k e)))) rfl ?_
        refine am_Rr.ret (v := none) (x := (am_lkx x (am_cho (x.2.2.2 21) (x.2.1 641) (am_sqo (x.2.2.2 2) 5) k e))) rfl (by trivial) ?_
        refine ⟨rfl, ?_⟩
        unfold am_skx
        first | (rw [if_pos (by unfold am_sq at *; refine ⟨?_, by assumption, ?_, ?_⟩; (first | exact Or.inl (by assumption) | exact Or.inr (by assumption)); all_goals (simp only [Int32.lt_iff_toInt_lt, Int32.le_iff_toInt_le, ← Int32.toInt_inj, am_nm9, am_nm6, am_nm4, am_nm3, am_nm2, am_nm1, am_n0, am_n1, am_n2, am_n3, am_n4, am_n5, am_n6, am_n7, am_n8, am_n9, am_n10, am_n11, am_n12, am_n20, am_n35, am_n36, am_n60, am_n96, am_n99, am_n255, am_n999] at *; omega))]; rfl) | (rw [if_neg (by (try unfold am_sq at *); rintro ⟨z1, z2, z3, z4⟩; first | exact absurd z2 (by assumption) | (rcases z1 with z1 | z1 <;> exact absurd z1 (by assumption)) | (simp only [Int32.lt_iff_toInt_lt, Int32.le_iff_toInt_le, ← Int32.toInt_inj, am_nm9, am_nm6, am_nm4, am_nm3, am_nm2, am_nm1, am_n0, am_n1, am_n2, am_n3, am_n4, am_n5, am_n6, am_n7, am_n8, am_n9, am_n10, am_n11, am_n12, am_n20, am_n35, am_n36, am_n60, am_n96, am_n99, am_n255, am_n999] at *; omega))]; rfl)
    · refine am_Rr.go 4 (σ' := (70, [some (.ref 20), some (.ref 1), some (.int k), some (.int e), some (.int (am_cho (x.2.2.2 21) (x.2.1 641) (am_sqo (x.2.2.2 2) 5) k e)), some (.int 0)], [], (am_lkx x (am_cho (x.2.2.2 21) (x.2.1 641) (am_sqo (x.2.2.2 2) 5) k e)))) rfl ?_
      refine am_Rr.ret (v := none) (x := (am_lkx x (am_cho (x.2.2.2 21) (x.2.1 641) (am_sqo (x.2.2.2 2) 5) k e))) rfl (by trivial) ?_
      refine ⟨rfl, ?_⟩
      unfold am_skx
      first | (rw [if_pos (by unfold am_sq at *; refine ⟨?_, by assumption, ?_, ?_⟩; (first | exact Or.inl (by assumption) | exact Or.inr (by assumption)); all_goals (simp only [Int32.lt_iff_toInt_lt, Int32.le_iff_toInt_le, ← Int32.toInt_inj, am_nm9, am_nm6, am_nm4, am_nm3, am_nm2, am_nm1, am_n0, am_n1, am_n2, am_n3, am_n4, am_n5, am_n6, am_n7, am_n8, am_n9, am_n10, am_n11, am_n12, am_n20, am_n35, am_n36, am_n60, am_n96, am_n99, am_n255, am_n999] at *; omega))]; rfl) | (rw [if_neg (by (try unfold am_sq at *); rintro ⟨z1, z2, z3, z4⟩; first | exact absurd z2 (by assumption) | (rcases z1 with z1 | z1 <;> exact absurd z1 (by assumption)) | (simp only [Int32.lt_iff_toInt_lt, Int32.le_iff_toInt_le, ← Int32.toInt_inj, am_nm9, am_nm6, am_nm4, am_nm3, am_nm2, am_nm1, am_n0, am_n1, am_n2, am_n3, am_n4, am_n5, am_n6, am_n7, am_n8, am_n9, am_n10, am_n11, am_n12, am_n20, am_n35, am_n36, am_n60, am_n96, am_n99, am_n255, am_n999] at *; omega))]; rfl)
def am_bgx (x : am_X) (w : Int64) (t : Int32) : am_X := (am_sB (am_uI (am_uL x 641 w) 642 t) 21 (vp_updL (vp_updL (vp_updL (x.2.2.2 21) 0 (am_bit (am_ifs (x.1 35) (x.2.2.1 4) (0 : Int32) (-9)))) 1 (am_bit (am_ifs (x.1 35) (x.2.2.1 4) (1 : Int32) (-9)))) 2 (am_bit (am_ifs (x.1 35) (x.2.2.1 4) (2 : Int32) (-9)))))
theorem S_begin (d : Nat) (w : Int64) (t : Int32) (x : am_X) : am_T (d + 4) mX2_begin [.ref 20, .ref 1, .long w, .int t] x (fun o x' => o = none ∧ am_bgx x w t = x') := by
  refine am_T.of rfl ?_
  show am_Rr _ kX2_begin (0, [some (.ref 20), some (.ref 1), some (.long w), none, some (.int t), none], [], x) _
  refine am_Rr.go 18 (σ' := (33, [some (.ref 20), some (.ref 1), some (.long w), none, some (.int t), some (.int 0)], [.int 0, .ref 1, .int 0, .ref 21], (am_uI (am_uL x 641 w) 642 t))) rfl ?_
  refine am_Rr.call (pc := 36) (ls := [some (.ref 20), some (.ref 1), some (.long w), none, some (.int t), some (.int 0)]) (st := [.int 0, .ref 21]) rfl (S_squareOfSeeker_1 d (0 : Int32) (am_uI (am_uL x 641 w) 642 t)) ?_
  rintro _ _ ⟨rfl, rfl⟩
  show am_Rr _ _ (36, [some (.ref 20), some (.ref 1), some (.long w), none, some (.int t), some (.int 0)], [.int (am_ifs (x.1 35) (x.2.2.1 4) (0 : Int32) (-9)), .int 0, .ref 21], (am_uI (am_uL x 641 w) 642 t)) _
  refine am_Rr.call (pc := 39) (ls := [some (.ref 20), some (.ref 1), some (.long w), none, some (.int t), some (.int 0)]) (st := [.int 0, .ref 21]) rfl (S_bit d (am_ifs (x.1 35) (x.2.2.1 4) (0 : Int32) (-9)) (am_uI (am_uL x 641 w) 642 t)) ?_
  rintro _ _ ⟨rfl, rfl⟩
  show am_Rr _ _ (39, [some (.ref 20), some (.ref 1), some (.long w), none, some (.int t), some (.int 0)], [.long (am_bit (am_ifs (x.1 35) (x.2.2.1 4) (0 : Int32) (-9))), .int 0, .ref 21], (am_uI (am_uL x 641 w) 642 t)) _
  refine am_Rr.chk (σ' := (40, [some (.ref 20), some (.ref 1), some (.long w), none, some (.int t), some (.int 0)], [], (am_sB (am_uI (am_uL x 641 w) 642 t) 21 (vp_updL (x.2.2.2 21) 0 (am_bit (am_ifs (x.1 35) (x.2.2.1 4) (0 : Int32) (-9))))))) rfl (by unfold vp_in; decide) ?_
  refine am_Rr.go 12 (σ' := (33, [some (.ref 20), some (.ref 1), some (.long w), none, some (.int t), some (.int 1)], [.int 1, .ref 1, .int 1, .ref 21], (am_sB (am_uI (am_uL x 641 w) 642 t) 21 (vp_updL (x.2.2.2 21) 0 (am_bit (am_ifs (x.1 35) (x.2.2.1 4) (0 : Int32) (-9))))))) rfl ?_
  refine am_Rr.call (pc := 36) (ls := [some (.ref 20), some (.ref 1), some (.long w), none, some (.int t), some (.int 1)]) (st := [.int 1, .ref 21]) rfl (S_squareOfSeeker_1 d (1 : Int32) (am_sB (am_uI (am_uL x 641 w) 642 t) 21 (vp_updL (x.2.2.2 21) 0 (am_bit (am_ifs (x.1 35) (x.2.2.1 4) (0 : Int32) (-9)))))) ?_
  rintro _ _ ⟨rfl, rfl⟩
  show am_Rr _ _ (36, [some (.ref 20), some (.ref 1), some (.long w), none, some (.int t), some (.int 1)], [.int (am_ifs (x.1 35) (x.2.2.1 4) (1 : Int32) (-9)), .int 1, .ref 21], (am_sB (am_uI (am_uL x 641 w) 642 t) 21 (vp_updL (x.2.2.2 21) 0 (am_bit (am_ifs (x.1 35) (x.2.2.1 4) (0 : Int32) (-9)))))) _
  refine am_Rr.call (pc := 39) (ls := [some (.ref 20), some (.ref 1), some (.long w), none, some (.int t), some (.int 1)]) (st := [.int 1, .ref 21]) rfl (S_bit d (am_ifs (x.1 35) (x.2.2.1 4) (1 : Int32) (-9)) (am_sB (am_uI (am_uL x 641 w) 642 t) 21 (vp_updL (x.2.2.2 21) 0 (am_bit (am_ifs (x.1 35) (x.2.2.1 4) (0 : Int32) (-9)))))) ?_
  rintro _ _ ⟨rfl, rfl⟩
  show am_Rr _ _ (39, [some (.ref 20), some (.ref 1), some (.long w), none, some (.int t), some (.int 1)], [.long (am_bit (am_ifs (x.1 35) (x.2.2.1 4) (1 : Int32) (-9))), .int 1, .ref 21], (am_sB (am_uI (am_uL x 641 w) 642 t) 21 (vp_updL (x.2.2.2 21) 0 (am_bit (am_ifs (x.1 35) (x.2.2.1 4) (0 : Int32) (-9)))))) _
  refine am_Rr.chk (σ' := (40, [some (.ref 20), some (.ref 1), some (.long w), none, some (.int t), some (.int 1)], [], (am_sB (am_sB (am_uI (am_uL x 641 w) 642 t) 21 (vp_updL (x.2.2.2 21) 0 (am_bit (am_ifs (x.1 35) (x.2.2.1 4) (0 : Int32) (-9))))) 21 (vp_updL (vp_updL (x.2.2.2 21) 0 (am_bit (am_ifs (x.1 35) (x.2.2.1 4) (0 : Int32) (-9)))) 1 (am_bit (am_ifs (x.1 35) (x.2.2.1 4) (1 : Int32) (-9))))))) rfl (by unfold vp_in; decide) ?_
  refine am_Rr.cong (x1 := (am_sB (am_uI (am_uL x 641 w) 642 t) 21 (vp_updL (vp_updL (x.2.2.2 21) 0 (am_bit (am_ifs (x.1 35) (x.2.2.1 4) (0 : Int32) (-9)))) 1 (am_bit (am_ifs (x.1 35) (x.2.2.1 4) (1 : Int32) (-9)))))) (am_sBB _ _ _ _) ?_
  refine am_Rr.go 12 (σ' := (33, [some (.ref 20), some (.ref 1), some (.long w), none, some (.int t), some (.int 2)], [.int 2, .ref 1, .int 2, .ref 21], (am_sB (am_uI (am_uL x 641 w) 642 t) 21 (vp_updL (vp_updL (x.2.2.2 21) 0 (am_bit (am_ifs (x.1 35) (x.2.2.1 4) (0 : Int32) (-9)))) 1 (am_bit (am_ifs (x.1 35) (x.2.2.1 4) (1 : Int32) (-9))))))) rfl ?_
  refine am_Rr.call (pc := 36) (ls := [some (.ref 20), some (.ref 1), some (.long w), none, some (.int t), some (.int 2)]) (st := [.int 2, .ref 21]) rfl (S_squareOfSeeker_1 d (2 : Int32) (am_sB (am_uI (am_uL x 641 w) 642 t) 21 (vp_updL (vp_updL (x.2.2.2 21) 0 (am_bit (am_ifs (x.1 35) (x.2.2.1 4) (0 : Int32) (-9)))) 1 (am_bit (am_ifs (x.1 35) (x.2.2.1 4) (1 : Int32) (-9)))))) ?_
  rintro _ _ ⟨rfl, rfl⟩
  show am_Rr _ _ (36, [some (.ref 20), some (.ref 1), some (.long w), none, some (.int t), some (.int 2)], [.int (am_ifs (x.1 35) (x.2.2.1 4) (2 : Int32) (-9)), .int 2, .ref 21], (am_sB (am_uI (am_uL x 641 w) 642 t) 21 (vp_updL (vp_updL (x.2.2.2 21) 0 (am_bit (am_ifs (x.1 35) (x.2.2.1 4) (0 : Int32) (-9)))) 1 (am_bit (am_ifs (x.1 35) (x.2.2.1 4) (1 : Int32) (-9)))))) _
  refine am_Rr.call (pc := 39) (ls := [some (.ref 20), some (.ref 1), some (.long w), none, some (.int t), some (.int 2)]) (st := [.int 2, .ref 21]) rfl (S_bit d (am_ifs (x.1 35) (x.2.2.1 4) (2 : Int32) (-9)) (am_sB (am_uI (am_uL x 641 w) 642 t) 21 (vp_updL (vp_updL (x.2.2.2 21) 0 (am_bit (am_ifs (x.1 35) (x.2.2.1 4) (0 : Int32) (-9)))) 1 (am_bit (am_ifs (x.1 35) (x.2.2.1 4) (1 : Int32) (-9)))))) ?_
  rintro _ _ ⟨rfl, rfl⟩
  show am_Rr _ _ (39, [some (.ref 20), some (.ref 1), some (.long w), none, some (.int t), some (.int 2)], [.long (am_bit (am_ifs (x.1 35) (x.2.2.1 4) (2 : Int32) (-9))), .int 2, .ref 21], (am_sB (am_uI (am_uL x 641 w) 642 t) 21 (vp_updL (vp_updL (x.2.2.2 21) 0 (am_bit (am_ifs (x.1 35) (x.2.2.1 4) (0 : Int32) (-9)))) 1 (am_bit (am_ifs (x.1 35) (x.2.2.1 4) (1 : Int32) (-9)))))) _
  refine am_Rr.chk (σ' := (40, [some (.ref 20), some (.ref 1), some (.long w), none, some (.int t), some (.int 2)], [], (am_sB (am_sB (am_uI (am_uL x 641 w) 642 t) 21 (vp_updL (vp_updL (x.2.2.2 21) 0 (am_bit (am_ifs (x.1 35) (x.2.2.1 4) (0 : Int32) (-9)))) 1 (am_bit (am_ifs (x.1 35) (x.2.2.1 4) (1 : Int32) (-9))))) 21 (vp_updL (vp_updL (vp_updL (x.2.2.2 21) 0 (am_bit (am_ifs (x.1 35) (x.2.2.1 4) (0 : Int32) (-9)))) 1 (am_bit (am_ifs (x.1 35) (x.2.2.1 4) (1 : Int32) (-9)))) 2 (am_bit (am_ifs (x.1 35) (x.2.2.1 4) (2 : Int32) (-9))))))) rfl (by unfold vp_in; decide) ?_
  refine am_Rr.cong (x1 := (am_sB (am_uI (am_uL x 641 w) 642 t) 21 (vp_updL (vp_updL (vp_updL (x.2.2.2 21) 0 (am_bit (am_ifs (x.1 35) (x.2.2.1 4) (0 : Int32) (-9)))) 1 (am_bit (am_ifs (x.1 35) (x.2.2.1 4) (1 : Int32) (-9)))) 2 (am_bit (am_ifs (x.1 35) (x.2.2.1 4) (2 : Int32) (-9)))))) (am_sBB _ _ _ _) ?_
  refine am_Rr.go 7 (σ' := (46, [some (.ref 20), some (.ref 1), some (.long w), none, some (.int t), some (.int 3)], [], (am_sB (am_uI (am_uL x 641 w) 642 t) 21 (vp_updL (vp_updL (vp_updL (x.2.2.2 21) 0 (am_bit (am_ifs (x.1 35) (x.2.2.1 4) (0 : Int32) (-9)))) 1 (am_bit (am_ifs (x.1 35) (x.2.2.1 4) (1 : Int32) (-9)))) 2 (am_bit (am_ifs (x.1 35) (x.2.2.1 4) (2 : Int32) (-9))))))) rfl ?_
  refine am_Rr.ret (v := none) (x := (am_sB (am_uI (am_uL x 641 w) 642 t) 21 (vp_updL (vp_updL (vp_updL (x.2.2.2 21) 0 (am_bit (am_ifs (x.1 35) (x.2.2.1 4) (0 : Int32) (-9)))) 1 (am_bit (am_ifs (x.1 35) (x.2.2.1 4) (1 : Int32) (-9)))) 2 (am_bit (am_ifs (x.1 35) (x.2.2.1 4) (2 : Int32) (-9)))))) rfl (by trivial) ?_
  exact ⟨rfl, rfl⟩
theorem am_nz_ex (z : Int32) : ∃ y : Int32, y = z * 1664525 + 1013904223 := ⟨_, rfl⟩
/-- hidden from reduction: a product by a large constant is unfolded by the kernel -/
noncomputable def am_nz (z : Int32) : Int32 := Classical.choose (am_nz_ex z)
theorem am_nz_eq (z : Int32) : am_nz z = z * 1664525 + 1013904223 := Classical.choose_spec (am_nz_ex z)
noncomputable def am_dr (z b : Int32) : Int32 := if 1 ≤ b then ((am_nz z &&& 2147483647) / 256) - ((am_nz z &&& 2147483647) / 256) / b * b else 0
theorem S_draw (d : Nat) (b : Int32) (x : am_X) : am_T (d + 2) mX3_draw [.ref 25, .int b] x (fun o x' => o = some (.int (am_dr (x.1 800) b)) ∧ am_uI x 800 (am_nz (x.1 800)) = x') := by
  refine am_T.of rfl ?_
  show am_Rr _ kX3_draw (0, [some (.ref 25), some (.int b)], [], x) _
  refine am_Rr.go 11 (σ' := (if (1 : Int32) ≤ b then 23 else 19, [some (.ref 25), some (.int b)], [], (am_uI x 800 (((x.1 800) * 1664525) + 1013904223)))) rfl ?_
  refine am_Rr.ite (fun h_1 => ?_) (fun h_1 => ?_)
  · refine am_Rr.go 5 (σ' := (33, [some (.ref 25), some (.int b)], [.int 256, .int ((((x.1 800) * 1664525) + 1013904223) &&& 2147483647)], (am_uI x 800 (((x.1 800) * 1664525) + 1013904223)))) rfl ?_
    refine am_Rr.chk (σ' := (34, [some (.ref 25), some (.int b)], [.int (((((x.1 800) * 1664525) + 1013904223) &&& 2147483647) / 256)], (am_uI x 800 (((x.1 800) * 1664525) + 1013904223)))) rfl (by decide) ?_
    refine am_Rr.go 1 (σ' := (35, [some (.ref 25), some (.int b)], [.int b, .int (((((x.1 800) * 1664525) + 1013904223) &&& 2147483647) / 256)], (am_uI x 800 (((x.1 800) * 1664525) + 1013904223)))) rfl ?_
    refine am_Rr.chk (σ' := (36, [some (.ref 25), some (.int b)], [.int ((((((x.1 800) * 1664525) + 1013904223) &&& 2147483647) / 256) - (((((x.1 800) * 1664525) + 1013904223) &&& 2147483647) / 256) / b * b)], (am_uI x 800 (((x.1 800) * 1664525) + 1013904223)))) rfl (by rintro rfl; exact absurd h_1 (by decide)) ?_
    refine am_Rr.ret (v := some (.int ((((((x.1 800) * 1664525) + 1013904223) &&& 2147483647) / 256) - (((((x.1 800) * 1664525) + 1013904223) &&& 2147483647) / 256) / b * b))) (x := (am_uI x 800 (((x.1 800) * 1664525) + 1013904223))) rfl (by trivial) ?_
    exact ⟨by unfold am_dr; rw [am_nz_eq]; first | (rw [if_pos (by assumption)]) | rw [if_neg (by assumption)], by rw [am_nz_eq]⟩
  · refine am_Rr.go 2 (σ' := (36, [some (.ref 25), some (.int b)], [.int 0], (am_uI x 800 (((x.1 800) * 1664525) + 1013904223)))) rfl ?_
    refine am_Rr.ret (v := some (.int 0)) (x := (am_uI x 800 (((x.1 800) * 1664525) + 1013904223))) rfl (by trivial) ?_
    exact ⟨by unfold am_dr; rw [am_nz_eq]; first | (rw [if_pos (by assumption)]) | rw [if_neg (by assumption)], by rw [am_nz_eq]⟩
def am_eo (f : Nat → Int64) (q : Int32) : Int64 := if 0 ≤ q.toInt ∧ q.toInt < 36 then f q.toNatClampNeg else 0
theorem S_endingOn (d : Nat) (q : Int32) (x : am_X) : am_T (d + 3) mX0_endingOn [.ref 22, .int q] x (fun ro x' => x = x' ∧ ro = some (.long (am_eo (x.2.2.2 23) q))) := by
  refine am_T.of rfl ?_
  show am_Rr _ kX0_endingOn (0, [some (.ref 22), some (.int q)], [], x) _
  refine am_Rr.go 1 (σ' := (1, [some (.ref 22), some (.int q)], [.int q], x)) rfl ?_
  refine am_Rr.call (pc := 4) (ls := [some (.ref 22), some (.int q)]) (st := []) rfl (S_isSquare d q x) ?_
  rintro _ _ ⟨rfl, (⟨rfl, b_1⟩ | ⟨rfl, b_1⟩)⟩
  · show am_Rr _ _ (4, [some (.ref 22), some (.int q)], [.int 1], x) _
    refine am_Rr.go 4 (σ' := (12, [some (.ref 22), some (.int q)], [.int q, .ref 23], x)) rfl ?_
    refine am_Rr.chk (σ' := (13, [some (.ref 22), some (.int q)], [.long ((x.2.2.2 23) q.toNatClampNeg)], x)) rfl (by unfold am_sq at *; rw [vp_in_iff]; omega) ?_
    refine am_Rr.go 1 (σ' := (17, [some (.ref 22), some (.int q)], [.long ((x.2.2.2 23) q.toNatClampNeg)], x)) rfl ?_
    refine am_Rr.ret (v := some (.long ((x.2.2.2 23) q.toNatClampNeg))) (x := x) rfl (by trivial) ?_
    exact ⟨rfl, by unfold am_eo; unfold am_sq at *; first | rw [if_pos (by assumption)] | rw [if_neg (by assumption)]⟩
  · show am_Rr _ _ (4, [some (.ref 22), some (.int q)], [.int 0], x) _
    refine am_Rr.go 2 (σ' := (17, [some (.ref 22), some (.int q)], [.long 0], x)) rfl ?_
    refine am_Rr.ret (v := some (.long 0)) (x := x) rfl (by trivial) ?_
    exact ⟨rfl, by unfold am_eo; unfold am_sq at *; first | rw [if_pos (by assumption)] | rw [if_neg (by assumption)]⟩
def am_iaF (f : Nat → Int64) : Nat → Nat → Int64 → Int64
  | 0, _, a => a
  | n + 1, i, a => am_iaF f n (i + 1) (a + f i)
theorem L_inAll (d : Nat) (x : am_X) : ∀ (n i : Nat) (a : Int64), i + n = 36 → am_Rr (d + 1) kX0_inAll (4, [some (.ref 22), some (.long a), none, some (.int (nI i))], [], x) (fun ro x' => x = x' ∧ ro = some (.long (am_iaF (x.2.2.2 23) n i a))) := by
  intro n
  induction n with
  | zero =>
    intro i a hi
    have hI : (nI i).toInt = (i : Int) := nI_toInt (by omega)
    refine am_Rr.go 3 (σ' := (if (36 : Int32) ≤ (nI i) then 25 else 10, [some (.ref 22), some (.long a), none, some (.int (nI i))], [], x)) rfl ?_
    refine am_Rr.ite (fun h_1 => ?_) (fun h_1 => ?_)
    · refine am_Rr.go 1 (σ' := (26, [some (.ref 22), some (.long a), none, some (.int (nI i))], [.long a], x)) rfl ?_
      refine am_Rr.ret (v := some (.long a)) (x := x) rfl (by trivial) ?_
      first | exact ⟨rfl, rfl⟩ | (exfalso; simp only [Int32.lt_iff_toInt_lt, Int32.le_iff_toInt_le, ← Int32.toInt_inj, am_nm9, am_nm6, am_nm4, am_nm3, am_nm2, am_nm1, am_n0, am_n1, am_n2, am_n3, am_n4, am_n5, am_n6, am_n7, am_n8, am_n9, am_n10, am_n11, am_n12, am_n20, am_n35, am_n36, am_n60, am_n96, am_n99, am_n255, am_n999, am_n141] at *; omega)
    · exfalso
      simp only [Int32.lt_iff_toInt_lt, Int32.le_iff_toInt_le, ← Int32.toInt_inj, am_nm9, am_nm6, am_nm4, am_nm3, am_nm2, am_nm1, am_n0, am_n1, am_n2, am_n3, am_n4, am_n5, am_n6, am_n7, am_n8, am_n9, am_n10, am_n11, am_n12, am_n20, am_n35, am_n36, am_n60, am_n96, am_n99, am_n255, am_n999, am_n141] at *; omega
  | succ n ih =>
    intro i a hi
    have hI : (nI i).toInt = (i : Int) := nI_toInt (by omega)
    have hcl : (nI i).toNatClampNeg = i := am_cln (by omega)
    refine am_Rr.go 3 (σ' := (if (36 : Int32) ≤ (nI i) then 25 else 10, [some (.ref 22), some (.long a), none, some (.int (nI i))], [], x)) rfl ?_
    refine am_Rr.ite (fun h_1 => ?_) (fun h_1 => ?_)
    · refine am_Rr.go 1 (σ' := (26, [some (.ref 22), some (.long a), none, some (.int (nI i))], [.long a], x)) rfl ?_
      refine am_Rr.ret (v := some (.long a)) (x := x) rfl (by trivial) ?_
      first | exact ⟨rfl, rfl⟩ | (exfalso; simp only [Int32.lt_iff_toInt_lt, Int32.le_iff_toInt_le, ← Int32.toInt_inj, am_nm9, am_nm6, am_nm4, am_nm3, am_nm2, am_nm1, am_n0, am_n1, am_n2, am_n3, am_n4, am_n5, am_n6, am_n7, am_n8, am_n9, am_n10, am_n11, am_n12, am_n20, am_n35, am_n36, am_n60, am_n96, am_n99, am_n255, am_n999, am_n141] at *; omega)
    · refine am_Rr.go 4 (σ' := (16, [some (.ref 22), some (.long a), none, some (.int (nI i))], [.int (nI i), .ref 23, .long a], x)) rfl ?_
      refine am_Rr.chk (σ' := (17, [some (.ref 22), some (.long a), none, some (.int (nI i))], [.long ((x.2.2.2 23) (nI i).toNatClampNeg), .long a], x)) rfl (by rw [vp_in_iff]; first | omega | (simp only [Int32.lt_iff_toInt_lt, Int32.le_iff_toInt_le, ← Int32.toInt_inj, am_nm9, am_nm6, am_nm4, am_nm3, am_nm2, am_nm1, am_n0, am_n1, am_n2, am_n3, am_n4, am_n5, am_n6, am_n7, am_n8, am_n9, am_n10, am_n11, am_n12, am_n20, am_n35, am_n36, am_n60, am_n96, am_n99, am_n255, am_n999, am_n141] at *; omega)) ?_
      refine am_Rr.go 4 (σ' := (4, [some (.ref 22), some (.long (a + ((x.2.2.2 23) (nI i).toNatClampNeg))), none, some (.int ((nI i) + 1))], [], x)) rfl ?_
      rw [am_inc, hcl]
      exact ih (i + 1) _ (by omega)
theorem S_inAll (d : Nat) (x : am_X) : am_T (d + 2) mX0_inAll [.ref 22] x (fun ro x' => x = x' ∧ ro = some (.long (am_iaF (x.2.2.2 23) 36 0 0))) := by
  refine am_T.of rfl ?_
  show am_Rr _ kX0_inAll (0, [some (.ref 22), none, none, none], [], x) _
  refine am_Rr.go 4 (σ' := (4, [some (.ref 22), some (.long 0), none, some (.int 0)], [], x)) rfl ?_
  exact L_inAll d x 36 0 _ rfl
def am_liF (f : Nat → Int64) : Nat → Nat → Int32 → Int32
  | 0, _, b => b
  | n + 1, i, b => if lg_cmp (am_eo f (nI i)) (am_eo f b) ≤ 0 then am_liF f n (i + 1) b else am_liF f n (i + 1) (nI i)
theorem L_likeliestSquare (d : Nat) (x : am_X) : ∀ (n i : Nat) (b : Int32), i + n = 36 → am_Rr (d + 3) kX0_likeliestSquare (4, [some (.ref 22), some (.int b), some (.int (nI i))], [], x) (fun ro x' => x = x' ∧ ro = some (.int (am_liF (x.2.2.2 23) n i b))) := by
  intro n
  induction n with
  | zero =>
    intro i b hi
    have hI : (nI i).toInt = (i : Int) := nI_toInt (by omega)
    refine am_Rr.go 3 (σ' := (if (36 : Int32) ≤ (nI i) then 32 else 10, [some (.ref 22), some (.int b), some (.int (nI i))], [], x)) rfl ?_
    refine am_Rr.ite (fun h_1 => ?_) (fun h_1 => ?_)
    · refine am_Rr.go 1 (σ' := (33, [some (.ref 22), some (.int b), some (.int (nI i))], [.int b], x)) rfl ?_
      refine am_Rr.ret (v := some (.int b)) (x := x) rfl (by trivial) ?_
      first | exact ⟨rfl, rfl⟩ | (exfalso; simp only [Int32.lt_iff_toInt_lt, Int32.le_iff_toInt_le, ← Int32.toInt_inj, am_nm9, am_nm6, am_nm4, am_nm3, am_nm2, am_nm1, am_n0, am_n1, am_n2, am_n3, am_n4, am_n5, am_n6, am_n7, am_n8, am_n9, am_n10, am_n11, am_n12, am_n20, am_n35, am_n36, am_n60, am_n96, am_n99, am_n255, am_n999, am_n141] at *; omega)
    · exfalso
      simp only [Int32.lt_iff_toInt_lt, Int32.le_iff_toInt_le, ← Int32.toInt_inj, am_nm9, am_nm6, am_nm4, am_nm3, am_nm2, am_nm1, am_n0, am_n1, am_n2, am_n3, am_n4, am_n5, am_n6, am_n7, am_n8, am_n9, am_n10, am_n11, am_n12, am_n20, am_n35, am_n36, am_n60, am_n96, am_n99, am_n255, am_n999, am_n141] at *; omega
  | succ n ih =>
    intro i b hi
    have hI : (nI i).toInt = (i : Int) := nI_toInt (by omega)
    refine am_Rr.go 3 (σ' := (if (36 : Int32) ≤ (nI i) then 32 else 10, [some (.ref 22), some (.int b), some (.int (nI i))], [], x)) rfl ?_
    refine am_Rr.ite (fun h_1 => ?_) (fun h_1 => ?_)
    · refine am_Rr.go 1 (σ' := (33, [some (.ref 22), some (.int b), some (.int (nI i))], [.int b], x)) rfl ?_
      refine am_Rr.ret (v := some (.int b)) (x := x) rfl (by trivial) ?_
      first | exact ⟨rfl, rfl⟩ | (exfalso; simp only [Int32.lt_iff_toInt_lt, Int32.le_iff_toInt_le, ← Int32.toInt_inj, am_nm9, am_nm6, am_nm4, am_nm3, am_nm2, am_nm1, am_n0, am_n1, am_n2, am_n3, am_n4, am_n5, am_n6, am_n7, am_n8, am_n9, am_n10, am_n11, am_n12, am_n20, am_n35, am_n36, am_n60, am_n96, am_n99, am_n255, am_n999, am_n141] at *; omega)
    · refine am_Rr.go 2 (σ' := (12, [some (.ref 22), some (.int b), some (.int (nI i))], [.int (nI i), .ref 22], x)) rfl ?_
      refine am_Rr.call (pc := 15) (ls := [some (.ref 22), some (.int b), some (.int (nI i))]) (st := []) rfl (S_endingOn d (nI i) x) ?_
      rintro _ _ ⟨rfl, rfl⟩
      show am_Rr _ _ (15, [some (.ref 22), some (.int b), some (.int (nI i))], [.long (am_eo (x.2.2.2 23) (nI i))], x) _
      refine am_Rr.go 2 (σ' := (17, [some (.ref 22), some (.int b), some (.int (nI i))], [.int b, .ref 22, .long (am_eo (x.2.2.2 23) (nI i))], x)) rfl ?_
      refine am_Rr.call (pc := 20) (ls := [some (.ref 22), some (.int b), some (.int (nI i))]) (st := [.long (am_eo (x.2.2.2 23) (nI i))]) rfl (S_endingOn d b x) ?_
      rintro _ _ ⟨rfl, rfl⟩
      show am_Rr _ _ (20, [some (.ref 22), some (.int b), some (.int (nI i))], [.long (am_eo (x.2.2.2 23) b), .long (am_eo (x.2.2.2 23) (nI i))], x) _
      refine am_Rr.go 2 (σ' := (if (lg_cmp (am_eo (x.2.2.2 23) (nI i)) (am_eo (x.2.2.2 23) b)) ≤ 0 then 26 else 24, [some (.ref 22), some (.int b), some (.int (nI i))], [], x)) rfl ?_
      refine am_Rr.ite (fun h_4 => ?_) (fun h_4 => ?_)
      · refine am_Rr.go 2 (σ' := (4, [some (.ref 22), some (.int b), some (.int ((nI i) + 1))], [], x)) rfl ?_
        first | rw [show am_liF (x.2.2.2 23) (n + 1) i b = am_liF (x.2.2.2 23) n (i + 1) b from if_pos (by assumption)] | rw [show am_liF (x.2.2.2 23) (n + 1) i b = am_liF (x.2.2.2 23) n (i + 1) (nI i) from if_neg (by assumption)]
        simp only [am_inc]
        exact ih (i + 1) _ (by omega)
      · refine am_Rr.go 4 (σ' := (4, [some (.ref 22), some (.int (nI i)), some (.int ((nI i) + 1))], [], x)) rfl ?_
        first | rw [show am_liF (x.2.2.2 23) (n + 1) i b = am_liF (x.2.2.2 23) n (i + 1) b from if_pos (by assumption)] | rw [show am_liF (x.2.2.2 23) (n + 1) i b = am_liF (x.2.2.2 23) n (i + 1) (nI i) from if_neg (by assumption)]
        simp only [am_inc]
        exact ih (i + 1) _ (by omega)
theorem S_likeliestSquare (d : Nat) (x : am_X) : am_T (d + 4) mX0_likeliestSquare [.ref 22] x (fun ro x' => x = x' ∧ ro = some (.int (am_liF (x.2.2.2 23) 35 1 0))) := by
  refine am_T.of rfl ?_
  show am_Rr _ kX0_likeliestSquare (0, [some (.ref 22), none, none], [], x) _
  refine am_Rr.go 4 (σ' := (4, [some (.ref 22), some (.int 0), some (.int 1)], [], x)) rfl ?_
  exact L_likeliestSquare d x 35 1 _ rfl
