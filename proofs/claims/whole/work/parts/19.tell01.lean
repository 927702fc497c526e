/-! the String constants' methods, the telling: laid by wip/whole/p19.py -/
theorem am_str8 {k : Nat} (h : 1000 ≤ k ∧ k < 1008) : k = 1000 ∨ k = 1001 ∨ k = 1002 ∨ k = 1003 ∨ k = 1004 ∨ k = 1005 ∨ k = 1006 ∨ k = 1007 := by omega
def am_ise (k : Nat) : Int32 := if k = 1000 then 1 else 0
def am_chr (k : Nat) (c : Int32) : Int32 := nI ((am_byt k).getD c.toNatClampNeg 0)
noncomputable def G_J3_checkIndex_1200 (a : Int32) (b : Int32) (x : am_X) : Option (Int32 × am_X) := (if a < 0 then none else (if a < b then some (a, x) else none))
theorem A_J3_checkIndex_1200 (d : Nat) {a : Int32} {b : Int32} {x : am_X} {res : Int32 × am_X} (hF : G_J3_checkIndex_1200 a b x = some res) : am_T (d + 2) mJ3_checkIndex_8e157 [.int a, .int b, .null] x (fun ro y => ro = some (.int res.1) ∧ res.2 = y) := by
  refine am_T.of rfl ?_
  show am_Rr (d + 1) kJ3_checkIndex_8e157 (0, [some (.int a), some (.int b), some (.null)], [], x) _
  unfold G_J3_checkIndex_1200 at hF
  refine am_Rr.go 2 (σ' := (if a < 0 then 9 else 4, [some (.int a), some (.int b), some (.null)], [], x)) rfl ?_
  refine am_Rr.ite (fun h1 => ?_) (fun h1 => ?_)
  · rw [if_pos h1] at hF
    cases hF
  · rw [if_neg h1] at hF
    refine am_Rr.go 3 (σ' := (if a < b then 16 else 9, [some (.int a), some (.int b), some (.null)], [], x)) rfl ?_
    refine am_Rr.ite (fun h2 => ?_) (fun h2 => ?_)
    · rw [if_pos h2] at hF
      refine am_Rr.go 1 (σ' := (17, [some (.int a), some (.int b), some (.null)], [.int a], x)) rfl ?_
      obtain rfl := Option.some.inj hF
      exact am_Rr.ret (v := some (.int a)) (x := x) rfl (by trivial) ⟨rfl, rfl⟩
    · rw [if_neg h2] at hF
      cases hF
noncomputable def G_J0_checkIndex (a : Int32) (b : Int32) (x : am_X) : Option (Unit × am_X) := (match G_J3_checkIndex_1200 a b x with | none => none | some (r1, x2) => some ((), x2))
theorem A_J0_checkIndex (d : Nat) {a : Int32} {b : Int32} {x : am_X} {res : Unit × am_X} (hF : G_J0_checkIndex a b x = some res) : am_T (d + 3) mJ0_checkIndex_df160 [.int a, .int b] x (fun ro y => ro = none ∧ res.2 = y) := by
  refine am_T.of rfl ?_
  show am_Rr (d + 2) kJ0_checkIndex_df160 (0, [some (.int a), some (.int b)], [], x) _
  unfold G_J0_checkIndex at hF
  refine am_Rr.go 3 (σ' := (5, [some (.int a), some (.int b)], [.null, .int b, .int a], x)) rfl ?_
  cases g3 : G_J3_checkIndex_1200 a b x with
  | none => rw [g3] at hF; cases hF
  | some q_ =>
    obtain ⟨r1, x2⟩ := q_
    rw [g3] at hF
    dsimp only at hF
    refine am_Rr.call (pc := 8) (ls := [some (.int a), some (.int b)]) (st := []) rfl (A_J3_checkIndex_1200 d g3) ?_
    rintro _ _ ⟨rfl, rfl⟩
    show am_Rr _ _ (8, [some (.int a), some (.int b)], [.int r1], x2) _
    refine am_Rr.go 1 (σ' := (9, [some (.int a), some (.int b)], [], x2)) rfl ?_
    obtain rfl := Option.some.inj hF
    exact am_Rr.ret (v := none) (x := x2) rfl (by trivial) ⟨rfl, rfl⟩
noncomputable def G_J1_canEncode (a : Int32) (x : am_X) : Option (Int32 × am_X) := (if a < 0 then some ((0 : Int32), x) else (if (255 : Int32) < a then some ((0 : Int32), x) else some ((1 : Int32), x)))
theorem A_J1_canEncode (d : Nat) {a : Int32} {x : am_X} {res : Int32 × am_X} (hF : G_J1_canEncode a x = some res) : am_T (d + 2) mJ1_canEncode_9a6ad [.int a] x (fun ro y => ro = some (.int res.1) ∧ res.2 = y) := by
  refine am_T.of rfl ?_
  show am_Rr (d + 1) kJ1_canEncode_9a6ad (0, [some (.int a)], [], x) _
  unfold G_J1_canEncode at hF
  refine am_Rr.go 2 (σ' := (if a < 0 then 15 else 4, [some (.int a)], [], x)) rfl ?_
  refine am_Rr.ite (fun h1 => ?_) (fun h1 => ?_)
  · rw [if_pos h1] at hF
    refine am_Rr.go 1 (σ' := (16, [some (.int a)], [.int 0], x)) rfl ?_
    obtain rfl := Option.some.inj hF
    exact am_Rr.ret (v := some (.int 0)) (x := x) rfl (by first | exact Or.inl rfl | exact Or.inr rfl | assumption) ⟨rfl, rfl⟩
  · rw [if_neg h1] at hF
    refine am_Rr.go 3 (σ' := (if (255 : Int32) < a then 15 else 11, [some (.int a)], [], x)) rfl ?_
    refine am_Rr.ite (fun h2 => ?_) (fun h2 => ?_)
    · rw [if_pos h2] at hF
      refine am_Rr.go 1 (σ' := (16, [some (.int a)], [.int 0], x)) rfl ?_
      obtain rfl := Option.some.inj hF
      exact am_Rr.ret (v := some (.int 0)) (x := x) rfl (by first | exact Or.inl rfl | exact Or.inr rfl | assumption) ⟨rfl, rfl⟩
    · rw [if_neg h2] at hF
      refine am_Rr.go 2 (σ' := (16, [some (.int a)], [.int 1], x)) rfl ?_
      obtain rfl := Option.some.inj hF
      exact am_Rr.ret (v := some (.int 1)) (x := x) rfl (by first | exact Or.inl rfl | exact Or.inr rfl | assumption) ⟨rfl, rfl⟩
noncomputable def G_J0_coder_1000  (x : am_X) : Option (Int32 × am_X) := some ((0 : Int32), x)
theorem A_J0_coder_1000 (d : Nat)  {x : am_X} {res : Int32 × am_X} (hF : G_J0_coder_1000  x = some res) : am_T (d + 2) mJ0_coder_7d493 [.ref 1000] x (fun ro y => ro = some (.int res.1) ∧ res.2 = y) := by
  refine am_T.of rfl ?_
  show am_Rr (d + 1) kJ0_coder_7d493 (0, [some (.ref 1000)], [], x) _
  unfold G_J0_coder_1000 at hF
  refine am_Rr.go 5 (σ' := (14, [some (.ref 1000)], [.int 0], x)) rfl ?_
  obtain rfl := Option.some.inj hF
  exact am_Rr.ret (v := some (.int 0)) (x := x) rfl (by first | exact Or.inl rfl | exact Or.inr rfl | assumption) ⟨rfl, rfl⟩
noncomputable def G_J0_isLatin1_1000  (x : am_X) : Option (Int32 × am_X) := some ((1 : Int32), x)
theorem A_J0_isLatin1_1000 (d : Nat)  {x : am_X} {res : Int32 × am_X} (hF : G_J0_isLatin1_1000  x = some res) : am_T (d + 2) mJ0_isLatin1_aae02 [.ref 1000] x (fun ro y => ro = some (.int res.1) ∧ res.2 = y) := by
  refine am_T.of rfl ?_
  show am_Rr (d + 1) kJ0_isLatin1_aae02 (0, [some (.ref 1000)], [], x) _
  unfold G_J0_isLatin1_1000 at hF
  refine am_Rr.go 7 (σ' := (18, [some (.ref 1000)], [.int 1], x)) rfl ?_
  obtain rfl := Option.some.inj hF
  exact am_Rr.ret (v := some (.int 1)) (x := x) rfl (by first | exact Or.inl rfl | exact Or.inr rfl | assumption) ⟨rfl, rfl⟩
noncomputable def G_J0_length_1000  (x : am_X) : Option (Int32 × am_X) := (match G_J0_coder_1000  x with | none => none | some (r1, x2) => some (((0 : Int32) >>> (r1 &&& 31)), x2))
theorem A_J0_length_1000 (d : Nat)  {x : am_X} {res : Int32 × am_X} (hF : G_J0_length_1000  x = some res) : am_T (d + 3) mJ0_length_8abf5 [.ref 1000] x (fun ro y => ro = some (.int res.1) ∧ res.2 = y) := by
  refine am_T.of rfl ?_
  show am_Rr (d + 2) kJ0_length_8abf5 (0, [some (.ref 1000)], [], x) _
  unfold G_J0_length_1000 at hF
  refine am_Rr.go 4 (σ' := (6, [some (.ref 1000)], [.ref 1000, .int 0], x)) rfl ?_
  cases g3 : G_J0_coder_1000  x with
  | none => rw [g3] at hF; cases hF
  | some q_ =>
    obtain ⟨r1, x2⟩ := q_
    rw [g3] at hF
    dsimp only at hF
    refine am_Rr.call (pc := 9) (ls := [some (.ref 1000)]) (st := [.int 0]) rfl (A_J0_coder_1000 d g3) ?_
    rintro _ _ ⟨rfl, rfl⟩
    show am_Rr _ _ (9, [some (.ref 1000)], [.int r1, .int 0], x2) _
    refine am_Rr.go 1 (σ' := (10, [some (.ref 1000)], [.int ((0 : Int32) >>> (r1 &&& 31))], x2)) rfl ?_
    obtain rfl := Option.some.inj hF
    exact am_Rr.ret (v := some (.int ((0 : Int32) >>> (r1 &&& 31)))) (x := x2) rfl (by trivial) ⟨rfl, rfl⟩
noncomputable def G_J0_isEmpty_1000  (x : am_X) : Option (Int32 × am_X) := some ((1 : Int32), x)
theorem A_J0_isEmpty_1000 (d : Nat)  {x : am_X} {res : Int32 × am_X} (hF : G_J0_isEmpty_1000  x = some res) : am_T (d + 2) mJ0_isEmpty_aae02 [.ref 1000] x (fun ro y => ro = some (.int res.1) ∧ res.2 = y) := by
  refine am_T.of rfl ?_
  show am_Rr (d + 1) kJ0_isEmpty_aae02 (0, [some (.ref 1000)], [], x) _
  unfold G_J0_isEmpty_1000 at hF
  refine am_Rr.go 6 (σ' := (13, [some (.ref 1000)], [.int 1], x)) rfl ?_
  obtain rfl := Option.some.inj hF
  exact am_Rr.ret (v := some (.int 1)) (x := x) rfl (by first | exact Or.inl rfl | exact Or.inr rfl | assumption) ⟨rfl, rfl⟩
noncomputable def G_J1_charAt_1100 (a : Int32) (x : am_X) : Option (Int32 × am_X) := (match G_J0_checkIndex a (0 : Int32) x with | none => none | some (_, x2) => (if 0 ≤ a.toInt ∧ a.toInt < 0 then (if narrow .char (.int ((((am_bat 1100 a) &&& 255).toUInt32 % 65536).toInt32)) = .int ((((am_bat 1100 a) &&& 255).toUInt32 % 65536).toInt32) then some (((((am_bat 1100 a) &&& 255).toUInt32 % 65536).toInt32), x2) else none) else none))
theorem A_J1_charAt_1100 (d : Nat) {a : Int32} {x : am_X} {res : Int32 × am_X} (hF : G_J1_charAt_1100 a x = some res) : am_T (d + 4) mJ1_charAt_3b067 [.ref 1100, .int a] x (fun ro y => ro = some (.int res.1) ∧ res.2 = y) := by
  refine am_T.of rfl ?_
  show am_Rr (d + 3) kJ1_charAt_3b067 (0, [some (.ref 1100), some (.int a)], [], x) _
  unfold G_J1_charAt_1100 at hF
  refine am_Rr.go 3 (σ' := (3, [some (.ref 1100), some (.int a)], [.int 0, .int a], x)) rfl ?_
  cases g3 : G_J0_checkIndex a (0 : Int32) x with
  | none => rw [g3] at hF; cases hF
  | some q_ =>
    obtain ⟨u_, x2⟩ := q_
    rw [g3] at hF
    dsimp only at hF
    refine am_Rr.call (pc := 6) (ls := [some (.ref 1100), some (.int a)]) (st := []) rfl (A_J0_checkIndex d g3) ?_
    rintro _ _ ⟨rfl, rfl⟩
    show am_Rr _ _ (6, [some (.ref 1100), some (.int a)], [], x2) _
    refine am_Rr.go 2 (σ' := (8, [some (.ref 1100), some (.int a)], [.int a, .ref 1100], x2)) rfl ?_
    by_cases c4 : 0 ≤ a.toInt ∧ a.toInt < 0
    · rw [if_pos c4] at hF
      refine am_Rr.chk (σ' := (9, [some (.ref 1100), some (.int a)], [.int (am_bat 1100 a)], x2)) rfl (by exact vp_in_iff.mpr c4) ?_
      refine am_Rr.go 3 (σ' := (14, [some (.ref 1100), some (.int a)], [.int ((((am_bat 1100 a) &&& 255).toUInt32 % 65536).toInt32)], x2)) rfl ?_
      by_cases c5 : narrow .char (.int ((((am_bat 1100 a) &&& 255).toUInt32 % 65536).toInt32)) = .int ((((am_bat 1100 a) &&& 255).toUInt32 % 65536).toInt32)
      · rw [if_pos c5] at hF
        obtain rfl := Option.some.inj hF
        exact am_Rr.ret (v := some (.int ((((am_bat 1100 a) &&& 255).toUInt32 % 65536).toInt32))) (x := x2) rfl (by exact c5) ⟨rfl, rfl⟩
      · rw [if_neg c5] at hF
        cases hF
    · rw [if_neg c4] at hF
      cases hF
noncomputable def G_J0_charAt_1000 (a : Int32) (x : am_X) : Option (Int32 × am_X) := (match G_J0_isLatin1_1000  x with | none => none | some (r1, x2) => (if r1 = 0 then none else (match G_J1_charAt_1100 a x2 with | none => none | some (r5, x6) => (if narrow .char (.int r5) = .int r5 then some (r5, x6) else none))))
theorem A_J0_charAt_1000 (d : Nat) {a : Int32} {x : am_X} {res : Int32 × am_X} (hF : G_J0_charAt_1000 a x = some res) : am_T (d + 5) mJ0_charAt_5068e [.ref 1000, .int a] x (fun ro y => ro = some (.int res.1) ∧ res.2 = y) := by
  refine am_T.of rfl ?_
  show am_Rr (d + 4) kJ0_charAt_5068e (0, [some (.ref 1000), some (.int a)], [], x) _
  unfold G_J0_charAt_1000 at hF
  refine am_Rr.go 1 (σ' := (1, [some (.ref 1000), some (.int a)], [.ref 1000], x)) rfl ?_
  cases g3 : G_J0_isLatin1_1000  x with
  | none => rw [g3] at hF; cases hF
  | some q_ =>
    obtain ⟨r1, x2⟩ := q_
    rw [g3] at hF
    dsimp only at hF
    refine am_Rr.call (pc := 4) (ls := [some (.ref 1000), some (.int a)]) (st := []) rfl (A_J0_isLatin1_1000 (d + 2) g3) ?_
    rintro _ _ ⟨rfl, rfl⟩
    show am_Rr _ _ (4, [some (.ref 1000), some (.int a)], [.int r1], x2) _
    refine am_Rr.go 1 (σ' := (if r1 = 0 then 16 else 7, [some (.ref 1000), some (.int a)], [], x2)) rfl ?_
    refine am_Rr.ite (fun h4 => ?_) (fun h4 => ?_)
    · rw [if_pos h4] at hF
      cases hF
    · rw [if_neg h4] at hF
      refine am_Rr.go 3 (σ' := (12, [some (.ref 1000), some (.int a)], [.int a, .ref 1100], x2)) rfl ?_
      cases g7 : G_J1_charAt_1100 a x2 with
      | none => rw [g7] at hF; cases hF
      | some q_ =>
        obtain ⟨r5, x6⟩ := q_
        rw [g7] at hF
        dsimp only at hF
        refine am_Rr.call (pc := 15) (ls := [some (.ref 1000), some (.int a)]) (st := []) rfl (A_J1_charAt_1100 d g7) ?_
        rintro _ _ ⟨rfl, rfl⟩
        show am_Rr _ _ (15, [some (.ref 1000), some (.int a)], [.int r5], x6) _
        by_cases c8 : narrow .char (.int r5) = .int r5
        · rw [if_pos c8] at hF
          obtain rfl := Option.some.inj hF
          exact am_Rr.ret (v := some (.int r5)) (x := x6) rfl (by exact c8) ⟨rfl, rfl⟩
        · rw [if_neg c8] at hF
          cases hF
noncomputable def L_J1_indexOfChar_1100_7 : Nat → Int32 → Int32 → Int32 → am_X → Option (Int32 × am_X)
  | 0, _, _, _, _ => none
  | n + 1, v3, v4, v5, x => (if v3 ≤ v5 then some ((-1 : Int32), x) else (if 0 ≤ v5.toInt ∧ v5.toInt < 0 then (if (am_bat 1100 v5) = v4 then some (v5, x) else L_J1_indexOfChar_1100_7 n v3 v4 (v5 + 1) x) else none))
theorem L_J1_indexOfChar_1100_7_ok (d : Nat) (res : Int32 × am_X) : ∀ (n : Nat) (v3 : Int32) (v4 : Int32) (v5 : Int32) (x : am_X), L_J1_indexOfChar_1100_7 n v3 v4 v5 x = some res → am_Rr (d + 1) kJ1_indexOfChar_4cfef (7, [some (.ref 1100), none, none, some (.int v3), some (.int v4), some (.int v5)], [], x) (fun ro y => ro = some (.int res.1) ∧ res.2 = y) := by
  intro n
  induction n with
  | zero =>
    intro v3 v4 v5 x hF
    cases hF
  | succ n ih =>
    intro v3 v4 v5 x hF
    rw [L_J1_indexOfChar_1100_7] at hF
    refine am_Rr.go 3 (σ' := (if v3 ≤ v5 then 31 else 13, [some (.ref 1100), none, none, some (.int v3), some (.int v4), some (.int v5)], [], x)) rfl ?_
    refine am_Rr.ite (fun h1 => ?_) (fun h1 => ?_)
    · rw [if_pos h1] at hF
      refine am_Rr.go 1 (σ' := (32, [some (.ref 1100), none, none, some (.int v3), some (.int v4), some (.int v5)], [.int (-1)], x)) rfl ?_
      obtain rfl := Option.some.inj hF
      exact am_Rr.ret (v := some (.int (-1))) (x := x) rfl (by trivial) ⟨rfl, rfl⟩
    · rw [if_neg h1] at hF
      refine am_Rr.go 2 (σ' := (16, [some (.ref 1100), none, none, some (.int v3), some (.int v4), some (.int v5)], [.int v5, .ref 1100], x)) rfl ?_
      by_cases c2 : 0 ≤ v5.toInt ∧ v5.toInt < 0
      · rw [if_pos c2] at hF
        refine am_Rr.chk (σ' := (17, [some (.ref 1100), none, none, some (.int v3), some (.int v4), some (.int v5)], [.int (am_bat 1100 v5)], x)) rfl (by exact vp_in_iff.mpr c2) ?_
        refine am_Rr.go 2 (σ' := (if (am_bat 1100 v5) = v4 then 22 else 25, [some (.ref 1100), none, none, some (.int v3), some (.int v4), some (.int v5)], [], x)) rfl ?_
        refine am_Rr.ite (fun h3 => ?_) (fun h3 => ?_)
        · rw [if_pos h3] at hF
          refine am_Rr.go 1 (σ' := (24, [some (.ref 1100), none, none, some (.int v3), some (.int v4), some (.int v5)], [.int v5], x)) rfl ?_
          obtain rfl := Option.some.inj hF
          exact am_Rr.ret (v := some (.int v5)) (x := x) rfl (by trivial) ⟨rfl, rfl⟩
        · rw [if_neg h3] at hF
          refine am_Rr.go 2 (σ' := (7, [some (.ref 1100), none, none, some (.int v3), some (.int v4), some (.int (v5 + 1))], [], x)) rfl ?_
          exact ih _ _ _ _ hF
      · rw [if_neg c2] at hF
        cases hF
noncomputable def G_J1_indexOfChar_1100 (a : Int32) (b : Int32) (e : Int32) (x : am_X) : Option (Int32 × am_X) := L_J1_indexOfChar_1100_7 10 e (a.toInt8.toInt32) b x
theorem A_J1_indexOfChar_1100 (d : Nat) {a : Int32} {b : Int32} {e : Int32} {x : am_X} {res : Int32 × am_X} (hF : G_J1_indexOfChar_1100 a b e x = some res) : am_T (d + 2) mJ1_indexOfChar_4cfef [.ref 1100, .int a, .int b, .int e] x (fun ro y => ro = some (.int res.1) ∧ res.2 = y) := by
  refine am_T.of rfl ?_
  show am_Rr (d + 1) kJ1_indexOfChar_4cfef (0, [some (.ref 1100), some (.int a), some (.int b), some (.int e), none, none], [], x) _
  unfold G_J1_indexOfChar_1100 at hF
  refine am_Rr.go 5 (σ' := (7, [some (.ref 1100), some (.int a), some (.int b), some (.int e), some (.int (a.toInt8.toInt32)), some (.int b)], [], x)) rfl ?_
  refine am_Rr.weak (ls0 := [some (.ref 1100), none, none, some (.int e), some (.int (a.toInt8.toInt32)), some (.int b)]) (by simp [am_le]) ?_
  exact L_J1_indexOfChar_1100_7_ok d res _ _ _ _ _ hF
noncomputable def G_J1_indexOf_1100 (a : Int32) (b : Int32) (e : Int32) (x : am_X) : Option (Int32 × am_X) := (match G_J1_canEncode a x with | none => none | some (r1, x2) => (if r1 = 0 then some ((-1 : Int32), x2) else (if (if b < 0 then (0 : Int32) else b) < (if (0 : Int32) < e then (0 : Int32) else e) then (match G_J1_indexOfChar_1100 a (if b < 0 then (0 : Int32) else b) (if (0 : Int32) < e then (0 : Int32) else e) x2 with | none => none | some (r6, x7) => some (r6, x7)) else some ((-1 : Int32), x2))))
theorem A_J1_indexOf_1100 (d : Nat) {a : Int32} {b : Int32} {e : Int32} {x : am_X} {res : Int32 × am_X} (hF : G_J1_indexOf_1100 a b e x = some res) : am_T (d + 3) mJ1_indexOf_4cfef [.ref 1100, .int a, .int b, .int e] x (fun ro y => ro = some (.int res.1) ∧ res.2 = y) := by
  refine am_T.of rfl ?_
  show am_Rr (d + 2) kJ1_indexOf_4cfef (0, [some (.ref 1100), some (.int a), some (.int b), some (.int e)], [], x) _
  unfold G_J1_indexOf_1100 at hF
  refine am_Rr.go 1 (σ' := (1, [some (.ref 1100), some (.int a), some (.int b), some (.int e)], [.int a], x)) rfl ?_
  cases g3 : G_J1_canEncode a x with
  | none => rw [g3] at hF; cases hF
  | some q_ =>
    obtain ⟨r1, x2⟩ := q_
    rw [g3] at hF
    dsimp only at hF
    refine am_Rr.call (pc := 4) (ls := [some (.ref 1100), some (.int a), some (.int b), some (.int e)]) (st := []) rfl (A_J1_canEncode d g3) ?_
    rintro _ _ ⟨rfl, rfl⟩
    show am_Rr _ _ (4, [some (.ref 1100), some (.int a), some (.int b), some (.int e)], [.int r1], x2) _
    refine am_Rr.go 1 (σ' := (if r1 = 0 then 7 else 9, [some (.ref 1100), some (.int a), some (.int b), some (.int e)], [], x2)) rfl ?_
    refine am_Rr.ite (fun h4 => ?_) (fun h4 => ?_)
    · rw [if_pos h4] at hF
      refine am_Rr.go 1 (σ' := (8, [some (.ref 1100), some (.int a), some (.int b), some (.int e)], [.int (-1)], x2)) rfl ?_
      obtain rfl := Option.some.inj hF
      exact am_Rr.ret (v := some (.int (-1))) (x := x2) rfl (by trivial) ⟨rfl, rfl⟩
    · rw [if_neg h4] at hF
      refine am_Rr.go 12 (σ' := (if (if b < 0 then (0 : Int32) else b) < (if (0 : Int32) < e then (0 : Int32) else e) then 29 else 27, [some (.ref 1100), some (.int a), some (.int (if b < 0 then (0 : Int32) else b)), some (.int (if (0 : Int32) < e then (0 : Int32) else e))], [], x2)) rfl ?_
      refine am_Rr.ite (fun h5 => ?_) (fun h5 => ?_)
      · rw [if_pos h5] at hF
        refine am_Rr.go 4 (σ' := (33, [some (.ref 1100), some (.int a), some (.int (if b < 0 then (0 : Int32) else b)), some (.int (if (0 : Int32) < e then (0 : Int32) else e))], [.int (if (0 : Int32) < e then (0 : Int32) else e), .int (if b < 0 then (0 : Int32) else b), .int a, .ref 1100], x2)) rfl ?_
        cases g8 : G_J1_indexOfChar_1100 a (if b < 0 then (0 : Int32) else b) (if (0 : Int32) < e then (0 : Int32) else e) x2 with
        | none => rw [g8] at hF; cases hF
        | some q_ =>
          obtain ⟨r6, x7⟩ := q_
          rw [g8] at hF
          dsimp only at hF
          refine am_Rr.call (pc := 36) (ls := [some (.ref 1100), some (.int a), some (.int (if b < 0 then (0 : Int32) else b)), some (.int (if (0 : Int32) < e then (0 : Int32) else e))]) (st := []) rfl (A_J1_indexOfChar_1100 d g8) ?_
          rintro _ _ ⟨rfl, rfl⟩
          show am_Rr _ _ (36, [some (.ref 1100), some (.int a), some (.int (if b < 0 then (0 : Int32) else b)), some (.int (if (0 : Int32) < e then (0 : Int32) else e))], [.int r6], x7) _
          obtain rfl := Option.some.inj hF
          exact am_Rr.ret (v := some (.int r6)) (x := x7) rfl (by trivial) ⟨rfl, rfl⟩
      · rw [if_neg h5] at hF
        refine am_Rr.go 1 (σ' := (28, [some (.ref 1100), some (.int a), some (.int (if b < 0 then (0 : Int32) else b)), some (.int (if (0 : Int32) < e then (0 : Int32) else e))], [.int (-1)], x2)) rfl ?_
        obtain rfl := Option.some.inj hF
        exact am_Rr.ret (v := some (.int (-1))) (x := x2) rfl (by trivial) ⟨rfl, rfl⟩
noncomputable def G_J0_indexOf2_1000 (a : Int32) (b : Int32) (x : am_X) : Option (Int32 × am_X) := (match G_J0_isLatin1_1000  x with | none => none | some (r1, x2) => (if r1 = 0 then (match G_J0_length_1000  x2 with | none => none | some (r5, x6) => none) else (match G_J0_length_1000  x2 with | none => none | some (r8, x9) => (match G_J1_indexOf_1100 a b r8 x9 with | none => none | some (r11, x12) => some (r11, x12)))))
theorem A_J0_indexOf2_1000 (d : Nat) {a : Int32} {b : Int32} {x : am_X} {res : Int32 × am_X} (hF : G_J0_indexOf2_1000 a b x = some res) : am_T (d + 4) mJ0_indexOf_7cf53 [.ref 1000, .int a, .int b] x (fun ro y => ro = some (.int res.1) ∧ res.2 = y) := by
  refine am_T.of rfl ?_
  show am_Rr (d + 3) kJ0_indexOf_7cf53 (0, [some (.ref 1000), some (.int a), some (.int b)], [], x) _
  unfold G_J0_indexOf2_1000 at hF
  refine am_Rr.go 1 (σ' := (1, [some (.ref 1000), some (.int a), some (.int b)], [.ref 1000], x)) rfl ?_
  cases g3 : G_J0_isLatin1_1000  x with
  | none => rw [g3] at hF; cases hF
  | some q_ =>
    obtain ⟨r1, x2⟩ := q_
    rw [g3] at hF
    dsimp only at hF
    refine am_Rr.call (pc := 4) (ls := [some (.ref 1000), some (.int a), some (.int b)]) (st := []) rfl (A_J0_isLatin1_1000 (d + 1) g3) ?_
    rintro _ _ ⟨rfl, rfl⟩
    show am_Rr _ _ (4, [some (.ref 1000), some (.int a), some (.int b)], [.int r1], x2) _
    refine am_Rr.go 1 (σ' := (if r1 = 0 then 23 else 7, [some (.ref 1000), some (.int a), some (.int b)], [], x2)) rfl ?_
    refine am_Rr.ite (fun h4 => ?_) (fun h4 => ?_)
    · rw [if_pos h4] at hF
      refine am_Rr.go 5 (σ' := (30, [some (.ref 1000), some (.int a), some (.int b)], [.ref 1000, .int b, .int a, .ref 1100], x2)) rfl ?_
      cases g7 : G_J0_length_1000  x2 with
      | none => rw [g7] at hF; cases hF
      | some q_ =>
        obtain ⟨r5, x6⟩ := q_
        rw [g7] at hF
        dsimp only at hF
        refine am_Rr.call (pc := 33) (ls := [some (.ref 1000), some (.int a), some (.int b)]) (st := [.int b, .int a, .ref 1100]) rfl (A_J0_length_1000 d g7) ?_
        rintro _ _ ⟨rfl, rfl⟩
        show am_Rr _ _ (33, [some (.ref 1000), some (.int a), some (.int b)], [.int r5, .int b, .int a, .ref 1100], x6) _
        cases hF
    · rw [if_neg h4] at hF
      refine am_Rr.go 5 (σ' := (14, [some (.ref 1000), some (.int a), some (.int b)], [.ref 1000, .int b, .int a, .ref 1100], x2)) rfl ?_
      cases g10 : G_J0_length_1000  x2 with
      | none => rw [g10] at hF; cases hF
      | some q_ =>
        obtain ⟨r8, x9⟩ := q_
        rw [g10] at hF
        dsimp only at hF
        refine am_Rr.call (pc := 17) (ls := [some (.ref 1000), some (.int a), some (.int b)]) (st := [.int b, .int a, .ref 1100]) rfl (A_J0_length_1000 d g10) ?_
        rintro _ _ ⟨rfl, rfl⟩
        show am_Rr _ _ (17, [some (.ref 1000), some (.int a), some (.int b)], [.int r8, .int b, .int a, .ref 1100], x9) _
        cases g13 : G_J1_indexOf_1100 a b r8 x9 with
        | none => rw [g13] at hF; cases hF
        | some q_ =>
          obtain ⟨r11, x12⟩ := q_
          rw [g13] at hF
          dsimp only at hF
          refine am_Rr.call (pc := 20) (ls := [some (.ref 1000), some (.int a), some (.int b)]) (st := []) rfl (A_J1_indexOf_1100 d g13) ?_
          rintro _ _ ⟨rfl, rfl⟩
          show am_Rr _ _ (20, [some (.ref 1000), some (.int a), some (.int b)], [.int r11], x12) _
          refine am_Rr.go 1 (σ' := (36, [some (.ref 1000), some (.int a), some (.int b)], [.int r11], x12)) rfl ?_
          obtain rfl := Option.some.inj hF
          exact am_Rr.ret (v := some (.int r11)) (x := x12) rfl (by trivial) ⟨rfl, rfl⟩
noncomputable def G_J0_indexOf_1000 (a : Int32) (x : am_X) : Option (Int32 × am_X) := (match G_J0_indexOf2_1000 a (0 : Int32) x with | none => none | some (r1, x2) => some (r1, x2))
theorem A_J0_indexOf_1000 (d : Nat) {a : Int32} {x : am_X} {res : Int32 × am_X} (hF : G_J0_indexOf_1000 a x = some res) : am_T (d + 5) mJ0_indexOf_0f7a4 [.ref 1000, .int a] x (fun ro y => ro = some (.int res.1) ∧ res.2 = y) := by
  refine am_T.of rfl ?_
  show am_Rr (d + 4) kJ0_indexOf_0f7a4 (0, [some (.ref 1000), some (.int a)], [], x) _
  unfold G_J0_indexOf_1000 at hF
  refine am_Rr.go 3 (σ' := (3, [some (.ref 1000), some (.int a)], [.int 0, .int a, .ref 1000], x)) rfl ?_
  cases g3 : G_J0_indexOf2_1000 a (0 : Int32) x with
  | none => rw [g3] at hF; cases hF
  | some q_ =>
    obtain ⟨r1, x2⟩ := q_
    rw [g3] at hF
    dsimp only at hF
    refine am_Rr.call (pc := 6) (ls := [some (.ref 1000), some (.int a)]) (st := []) rfl (A_J0_indexOf2_1000 d g3) ?_
    rintro _ _ ⟨rfl, rfl⟩
    show am_Rr _ _ (6, [some (.ref 1000), some (.int a)], [.int r1], x2) _
    obtain rfl := Option.some.inj hF
    exact am_Rr.ret (v := some (.int r1)) (x := x2) rfl (by trivial) ⟨rfl, rfl⟩
noncomputable def G_J0_coder_1001  (x : am_X) : Option (Int32 × am_X) := some ((0 : Int32), x)
theorem A_J0_coder_1001 (d : Nat)  {x : am_X} {res : Int32 × am_X} (hF : G_J0_coder_1001  x = some res) : am_T (d + 2) mJ0_coder_7d493 [.ref 1001] x (fun ro y => ro = some (.int res.1) ∧ res.2 = y) := by
  refine am_T.of rfl ?_
  show am_Rr (d + 1) kJ0_coder_7d493 (0, [some (.ref 1001)], [], x) _
  unfold G_J0_coder_1001 at hF
  refine am_Rr.go 5 (σ' := (14, [some (.ref 1001)], [.int 0], x)) rfl ?_
  obtain rfl := Option.some.inj hF
  exact am_Rr.ret (v := some (.int 0)) (x := x) rfl (by first | exact Or.inl rfl | exact Or.inr rfl | assumption) ⟨rfl, rfl⟩
noncomputable def G_J0_isLatin1_1001  (x : am_X) : Option (Int32 × am_X) := some ((1 : Int32), x)
theorem A_J0_isLatin1_1001 (d : Nat)  {x : am_X} {res : Int32 × am_X} (hF : G_J0_isLatin1_1001  x = some res) : am_T (d + 2) mJ0_isLatin1_aae02 [.ref 1001] x (fun ro y => ro = some (.int res.1) ∧ res.2 = y) := by
  refine am_T.of rfl ?_
  show am_Rr (d + 1) kJ0_isLatin1_aae02 (0, [some (.ref 1001)], [], x) _
  unfold G_J0_isLatin1_1001 at hF
  refine am_Rr.go 7 (σ' := (18, [some (.ref 1001)], [.int 1], x)) rfl ?_
  obtain rfl := Option.some.inj hF
  exact am_Rr.ret (v := some (.int 1)) (x := x) rfl (by first | exact Or.inl rfl | exact Or.inr rfl | assumption) ⟨rfl, rfl⟩
noncomputable def G_J0_length_1001  (x : am_X) : Option (Int32 × am_X) := (match G_J0_coder_1001  x with | none => none | some (r1, x2) => some (((4 : Int32) >>> (r1 &&& 31)), x2))
theorem A_J0_length_1001 (d : Nat)  {x : am_X} {res : Int32 × am_X} (hF : G_J0_length_1001  x = some res) : am_T (d + 3) mJ0_length_8abf5 [.ref 1001] x (fun ro y => ro = some (.int res.1) ∧ res.2 = y) := by
  refine am_T.of rfl ?_
  show am_Rr (d + 2) kJ0_length_8abf5 (0, [some (.ref 1001)], [], x) _
  unfold G_J0_length_1001 at hF
  refine am_Rr.go 4 (σ' := (6, [some (.ref 1001)], [.ref 1001, .int 4], x)) rfl ?_
  cases g3 : G_J0_coder_1001  x with
  | none => rw [g3] at hF; cases hF
  | some q_ =>
    obtain ⟨r1, x2⟩ := q_
    rw [g3] at hF
    dsimp only at hF
    refine am_Rr.call (pc := 9) (ls := [some (.ref 1001)]) (st := [.int 4]) rfl (A_J0_coder_1001 d g3) ?_
    rintro _ _ ⟨rfl, rfl⟩
    show am_Rr _ _ (9, [some (.ref 1001)], [.int r1, .int 4], x2) _
    refine am_Rr.go 1 (σ' := (10, [some (.ref 1001)], [.int ((4 : Int32) >>> (r1 &&& 31))], x2)) rfl ?_
    obtain rfl := Option.some.inj hF
    exact am_Rr.ret (v := some (.int ((4 : Int32) >>> (r1 &&& 31)))) (x := x2) rfl (by trivial) ⟨rfl, rfl⟩
noncomputable def G_J0_isEmpty_1001  (x : am_X) : Option (Int32 × am_X) := some ((0 : Int32), x)
theorem A_J0_isEmpty_1001 (d : Nat)  {x : am_X} {res : Int32 × am_X} (hF : G_J0_isEmpty_1001  x = some res) : am_T (d + 2) mJ0_isEmpty_aae02 [.ref 1001] x (fun ro y => ro = some (.int res.1) ∧ res.2 = y) := by
  refine am_T.of rfl ?_
  show am_Rr (d + 1) kJ0_isEmpty_aae02 (0, [some (.ref 1001)], [], x) _
  unfold G_J0_isEmpty_1001 at hF
  refine am_Rr.go 5 (σ' := (13, [some (.ref 1001)], [.int 0], x)) rfl ?_
  obtain rfl := Option.some.inj hF
  exact am_Rr.ret (v := some (.int 0)) (x := x) rfl (by first | exact Or.inl rfl | exact Or.inr rfl | assumption) ⟨rfl, rfl⟩
noncomputable def G_J1_charAt_1101 (a : Int32) (x : am_X) : Option (Int32 × am_X) := (match G_J0_checkIndex a (4 : Int32) x with | none => none | some (_, x2) => (if 0 ≤ a.toInt ∧ a.toInt < 4 then (if narrow .char (.int ((((am_bat 1101 a) &&& 255).toUInt32 % 65536).toInt32)) = .int ((((am_bat 1101 a) &&& 255).toUInt32 % 65536).toInt32) then some (((((am_bat 1101 a) &&& 255).toUInt32 % 65536).toInt32), x2) else none) else none))
theorem A_J1_charAt_1101 (d : Nat) {a : Int32} {x : am_X} {res : Int32 × am_X} (hF : G_J1_charAt_1101 a x = some res) : am_T (d + 4) mJ1_charAt_3b067 [.ref 1101, .int a] x (fun ro y => ro = some (.int res.1) ∧ res.2 = y) := by
  refine am_T.of rfl ?_
  show am_Rr (d + 3) kJ1_charAt_3b067 (0, [some (.ref 1101), some (.int a)], [], x) _
  unfold G_J1_charAt_1101 at hF
  refine am_Rr.go 3 (σ' := (3, [some (.ref 1101), some (.int a)], [.int 4, .int a], x)) rfl ?_
  cases g3 : G_J0_checkIndex a (4 : Int32) x with
  | none => rw [g3] at hF; cases hF
  | some q_ =>
    obtain ⟨u_, x2⟩ := q_
    rw [g3] at hF
    dsimp only at hF
    refine am_Rr.call (pc := 6) (ls := [some (.ref 1101), some (.int a)]) (st := []) rfl (A_J0_checkIndex d g3) ?_
    rintro _ _ ⟨rfl, rfl⟩
    show am_Rr _ _ (6, [some (.ref 1101), some (.int a)], [], x2) _
    refine am_Rr.go 2 (σ' := (8, [some (.ref 1101), some (.int a)], [.int a, .ref 1101], x2)) rfl ?_
    by_cases c4 : 0 ≤ a.toInt ∧ a.toInt < 4
    · rw [if_pos c4] at hF
      refine am_Rr.chk (σ' := (9, [some (.ref 1101), some (.int a)], [.int (am_bat 1101 a)], x2)) rfl (by exact vp_in_iff.mpr c4) ?_
      refine am_Rr.go 3 (σ' := (14, [some (.ref 1101), some (.int a)], [.int ((((am_bat 1101 a) &&& 255).toUInt32 % 65536).toInt32)], x2)) rfl ?_
      by_cases c5 : narrow .char (.int ((((am_bat 1101 a) &&& 255).toUInt32 % 65536).toInt32)) = .int ((((am_bat 1101 a) &&& 255).toUInt32 % 65536).toInt32)
      · rw [if_pos c5] at hF
        obtain rfl := Option.some.inj hF
        exact am_Rr.ret (v := some (.int ((((am_bat 1101 a) &&& 255).toUInt32 % 65536).toInt32))) (x := x2) rfl (by exact c5) ⟨rfl, rfl⟩
      · rw [if_neg c5] at hF
        cases hF
    · rw [if_neg c4] at hF
      cases hF
noncomputable def G_J0_charAt_1001 (a : Int32) (x : am_X) : Option (Int32 × am_X) := (match G_J0_isLatin1_1001  x with | none => none | some (r1, x2) => (if r1 = 0 then none else (match G_J1_charAt_1101 a x2 with | none => none | some (r5, x6) => (if narrow .char (.int r5) = .int r5 then some (r5, x6) else none))))
theorem A_J0_charAt_1001 (d : Nat) {a : Int32} {x : am_X} {res : Int32 × am_X} (hF : G_J0_charAt_1001 a x = some res) : am_T (d + 5) mJ0_charAt_5068e [.ref 1001, .int a] x (fun ro y => ro = some (.int res.1) ∧ res.2 = y) := by
  refine am_T.of rfl ?_
  show am_Rr (d + 4) kJ0_charAt_5068e (0, [some (.ref 1001), some (.int a)], [], x) _
  unfold G_J0_charAt_1001 at hF
  refine am_Rr.go 1 (σ' := (1, [some (.ref 1001), some (.int a)], [.ref 1001], x)) rfl ?_
  cases g3 : G_J0_isLatin1_1001  x with
  | none => rw [g3] at hF; cases hF
  | some q_ =>
    obtain ⟨r1, x2⟩ := q_
    rw [g3] at hF
    dsimp only at hF
    refine am_Rr.call (pc := 4) (ls := [some (.ref 1001), some (.int a)]) (st := []) rfl (A_J0_isLatin1_1001 (d + 2) g3) ?_
    rintro _ _ ⟨rfl, rfl⟩
    show am_Rr _ _ (4, [some (.ref 1001), some (.int a)], [.int r1], x2) _
    refine am_Rr.go 1 (σ' := (if r1 = 0 then 16 else 7, [some (.ref 1001), some (.int a)], [], x2)) rfl ?_
    refine am_Rr.ite (fun h4 => ?_) (fun h4 => ?_)
    · rw [if_pos h4] at hF
      cases hF
    · rw [if_neg h4] at hF
      refine am_Rr.go 3 (σ' := (12, [some (.ref 1001), some (.int a)], [.int a, .ref 1101], x2)) rfl ?_
      cases g7 : G_J1_charAt_1101 a x2 with
      | none => rw [g7] at hF; cases hF
      | some q_ =>
        obtain ⟨r5, x6⟩ := q_
        rw [g7] at hF
        dsimp only at hF
        refine am_Rr.call (pc := 15) (ls := [some (.ref 1001), some (.int a)]) (st := []) rfl (A_J1_charAt_1101 d g7) ?_
        rintro _ _ ⟨rfl, rfl⟩
        show am_Rr _ _ (15, [some (.ref 1001), some (.int a)], [.int r5], x6) _
        by_cases c8 : narrow .char (.int r5) = .int r5
        · rw [if_pos c8] at hF
          obtain rfl := Option.some.inj hF
          exact am_Rr.ret (v := some (.int r5)) (x := x6) rfl (by exact c8) ⟨rfl, rfl⟩
        · rw [if_neg c8] at hF
          cases hF
