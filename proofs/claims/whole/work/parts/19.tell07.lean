theorem E_length (d k : Nat) (hk : 1000 ≤ k ∧ k < 1008) (x : am_X) : am_T (d + 3) mJ0_length_8abf5 [.ref k] x (fun ro y => x = y ∧ ro = some (.int (nI (am_byt k).length))) := by
  rcases am_str8 hk with rfl | rfl | rfl | rfl | rfl | rfl | rfl | rfl
  · refine am_T.mono (A_J0_length_1000 d (EG_len_1000 x)) ?_
    rintro ro y ⟨rfl, rfl⟩
    exact ⟨rfl, by rw [am_byt_1000]; rfl⟩
  · refine am_T.mono (A_J0_length_1001 d (EG_len_1001 x)) ?_
    rintro ro y ⟨rfl, rfl⟩
    exact ⟨rfl, by rw [am_byt_1001]; rfl⟩
  · refine am_T.mono (A_J0_length_1002 d (EG_len_1002 x)) ?_
    rintro ro y ⟨rfl, rfl⟩
    exact ⟨rfl, by rw [am_byt_1002]; rfl⟩
  · refine am_T.mono (A_J0_length_1003 d (EG_len_1003 x)) ?_
    rintro ro y ⟨rfl, rfl⟩
    exact ⟨rfl, by rw [am_byt_1003]; rfl⟩
  · refine am_T.mono (A_J0_length_1004 d (EG_len_1004 x)) ?_
    rintro ro y ⟨rfl, rfl⟩
    exact ⟨rfl, by rw [am_byt_1004]; rfl⟩
  · refine am_T.mono (A_J0_length_1005 d (EG_len_1005 x)) ?_
    rintro ro y ⟨rfl, rfl⟩
    exact ⟨rfl, by rw [am_byt_1005]; rfl⟩
  · refine am_T.mono (A_J0_length_1006 d (EG_len_1006 x)) ?_
    rintro ro y ⟨rfl, rfl⟩
    exact ⟨rfl, by rw [am_byt_1006]; rfl⟩
  · refine am_T.mono (A_J0_length_1007 d (EG_len_1007 x)) ?_
    rintro ro y ⟨rfl, rfl⟩
    exact ⟨rfl, by rw [am_byt_1007]; rfl⟩
theorem E_isEmpty (d k : Nat) (hk : 1000 ≤ k ∧ k < 1008) (x : am_X) : am_T (d + 2) mJ0_isEmpty_aae02 [.ref k] x (fun ro y => x = y ∧ ro = some (.int (am_ise k))) := by
  rcases am_str8 hk with rfl | rfl | rfl | rfl | rfl | rfl | rfl | rfl
  · refine am_T.mono (A_J0_isEmpty_1000 d (show G_J0_isEmpty_1000 x = some (am_ise 1000, x) from rfl)) ?_
    rintro ro y ⟨rfl, rfl⟩
    exact ⟨rfl, rfl⟩
  · refine am_T.mono (A_J0_isEmpty_1001 d (show G_J0_isEmpty_1001 x = some (am_ise 1001, x) from rfl)) ?_
    rintro ro y ⟨rfl, rfl⟩
    exact ⟨rfl, rfl⟩
  · refine am_T.mono (A_J0_isEmpty_1002 d (show G_J0_isEmpty_1002 x = some (am_ise 1002, x) from rfl)) ?_
    rintro ro y ⟨rfl, rfl⟩
    exact ⟨rfl, rfl⟩
  · refine am_T.mono (A_J0_isEmpty_1003 d (show G_J0_isEmpty_1003 x = some (am_ise 1003, x) from rfl)) ?_
    rintro ro y ⟨rfl, rfl⟩
    exact ⟨rfl, rfl⟩
  · refine am_T.mono (A_J0_isEmpty_1004 d (show G_J0_isEmpty_1004 x = some (am_ise 1004, x) from rfl)) ?_
    rintro ro y ⟨rfl, rfl⟩
    exact ⟨rfl, rfl⟩
  · refine am_T.mono (A_J0_isEmpty_1005 d (show G_J0_isEmpty_1005 x = some (am_ise 1005, x) from rfl)) ?_
    rintro ro y ⟨rfl, rfl⟩
    exact ⟨rfl, rfl⟩
  · refine am_T.mono (A_J0_isEmpty_1006 d (show G_J0_isEmpty_1006 x = some (am_ise 1006, x) from rfl)) ?_
    rintro ro y ⟨rfl, rfl⟩
    exact ⟨rfl, rfl⟩
  · refine am_T.mono (A_J0_isEmpty_1007 d (show G_J0_isEmpty_1007 x = some (am_ise 1007, x) from rfl)) ?_
    rintro ro y ⟨rfl, rfl⟩
    exact ⟨rfl, rfl⟩
theorem E_indexOf (d k : Nat) (c : Int32) (hk : 1000 ≤ k ∧ k < 1008) (x : am_X) : am_T (d + 5) mJ0_indexOf_0f7a4 [.ref k, .int c] x (fun ro y => x = y ∧ ro = some (.int (am_idx c (am_byt k) 0))) := by
  rcases am_str8 hk with rfl | rfl | rfl | rfl | rfl | rfl | rfl | rfl
  · refine am_T.mono (A_J0_indexOf_1000 d (EG_indexOf_1000 c x)) ?_
    rintro ro y ⟨rfl, rfl⟩
    exact ⟨rfl, rfl⟩
  · refine am_T.mono (A_J0_indexOf_1001 d (EG_indexOf_1001 c x)) ?_
    rintro ro y ⟨rfl, rfl⟩
    exact ⟨rfl, rfl⟩
  · refine am_T.mono (A_J0_indexOf_1002 d (EG_indexOf_1002 c x)) ?_
    rintro ro y ⟨rfl, rfl⟩
    exact ⟨rfl, rfl⟩
  · refine am_T.mono (A_J0_indexOf_1003 d (EG_indexOf_1003 c x)) ?_
    rintro ro y ⟨rfl, rfl⟩
    exact ⟨rfl, rfl⟩
  · refine am_T.mono (A_J0_indexOf_1004 d (EG_indexOf_1004 c x)) ?_
    rintro ro y ⟨rfl, rfl⟩
    exact ⟨rfl, rfl⟩
  · refine am_T.mono (A_J0_indexOf_1005 d (EG_indexOf_1005 c x)) ?_
    rintro ro y ⟨rfl, rfl⟩
    exact ⟨rfl, rfl⟩
  · refine am_T.mono (A_J0_indexOf_1006 d (EG_indexOf_1006 c x)) ?_
    rintro ro y ⟨rfl, rfl⟩
    exact ⟨rfl, rfl⟩
  · refine am_T.mono (A_J0_indexOf_1007 d (EG_indexOf_1007 c x)) ?_
    rintro ro y ⟨rfl, rfl⟩
    exact ⟨rfl, rfl⟩
theorem E_charAt (d k : Nat) (c : Int32) (hk : 1000 ≤ k ∧ k < 1008) (hc : 0 ≤ c.toInt ∧ c.toInt < ((am_byt k).length : Int)) (x : am_X) : am_T (d + 5) mJ0_charAt_5068e [.ref k, .int c] x (fun ro y => x = y ∧ ro = some (.int (am_chr k c))) := by
  rcases am_str8 hk with rfl | rfl | rfl | rfl | rfl | rfl | rfl | rfl
  · exact absurd hc.2 (by rw [am_byt_1000]; have := hc.1; simp; omega)
  · refine am_T.mono (A_J0_charAt_1001 d (EG_charAt_1001 c hc x)) ?_
    rintro ro y ⟨rfl, rfl⟩
    exact ⟨rfl, rfl⟩
  · refine am_T.mono (A_J0_charAt_1002 d (EG_charAt_1002 c hc x)) ?_
    rintro ro y ⟨rfl, rfl⟩
    exact ⟨rfl, rfl⟩
  · refine am_T.mono (A_J0_charAt_1003 d (EG_charAt_1003 c hc x)) ?_
    rintro ro y ⟨rfl, rfl⟩
    exact ⟨rfl, rfl⟩
  · refine am_T.mono (A_J0_charAt_1004 d (EG_charAt_1004 c hc x)) ?_
    rintro ro y ⟨rfl, rfl⟩
    exact ⟨rfl, rfl⟩
  · refine am_T.mono (A_J0_charAt_1005 d (EG_charAt_1005 c hc x)) ?_
    rintro ro y ⟨rfl, rfl⟩
    exact ⟨rfl, rfl⟩
  · refine am_T.mono (A_J0_charAt_1006 d (EG_charAt_1006 c hc x)) ?_
    rintro ro y ⟨rfl, rfl⟩
    exact ⟨rfl, rfl⟩
  · refine am_T.mono (A_J0_charAt_1007 d (EG_charAt_1007 c hc x)) ?_
    rintro ro y ⟨rfl, rfl⟩
    exact ⟨rfl, rfl⟩
noncomputable def G_X5_shapeBehind (a : Int32) (x : am_X) : Option (Nat × am_X) := (if a = 104 then some (1003, x) else (if a = 105 then some (1000, x) else (if a = 106 then some (1000, x) else (if a = 107 then some (1001, x) else (if a = 108 then some (1000, x) else (if a = 109 then some (1000, x) else (if a = 110 then some (1000, x) else (if a = 111 then some (1000, x) else (if a = 112 then some (1004, x) else (if a = 113 then some (1000, x) else (if a = 114 then some (1000, x) else (if a = 115 then some (1005, x) else (if a = 116 then some (1000, x) else (if a = 117 then some (1000, x) else (if a = 118 then some (1002, x) else (if a = 119 then some (1004, x) else some (1000, x)))))))))))))))))
theorem A_X5_shapeBehind (d : Nat) {a : Int32} {x : am_X} {res : Nat × am_X} (hF : G_X5_shapeBehind a x = some res) : am_T (d + 2) mX5_shapeBehind [.int a] x (fun ro y => ro = some (.ref res.1) ∧ res.2 = y) := by
  refine am_T.of rfl ?_
  show am_Rr (d + 1) kX5_shapeBehind (0, [some (.int a)], [], x) _
  unfold G_X5_shapeBehind at hF
  refine am_Rr.go 2 (σ' := ((if a = 104 then 86 else (if a = 105 then 98 else (if a = 106 then 98 else (if a = 107 then 80 else (if a = 108 then 98 else (if a = 109 then 98 else (if a = 110 then 98 else (if a = 111 then 98 else (if a = 112 then 89 else (if a = 113 then 98 else (if a = 114 then 98 else (if a = 115 then 95 else (if a = 116 then 98 else (if a = 117 then 98 else (if a = 118 then 83 else (if a = 119 then 92 else 98)))))))))))))))), [some (.int a)], [], x)) rfl ?_
  refine am_Rr.ite (fun h1 => ?_) (fun h1 => ?_)
  · rw [if_pos h1] at hF
    refine am_Rr.go 1 (σ' := (88, [some (.int a)], [.ref 1003], x)) rfl ?_
    obtain rfl := Option.some.inj hF
    exact am_Rr.ret (v := some (.ref 1003)) (x := x) rfl (by trivial) ⟨rfl, rfl⟩
  rw [if_neg h1] at hF
  refine am_Rr.ite (fun h2 => ?_) (fun h2 => ?_)
  · rw [if_pos h2] at hF
    refine am_Rr.go 1 (σ' := (100, [some (.int a)], [.ref 1000], x)) rfl ?_
    obtain rfl := Option.some.inj hF
    exact am_Rr.ret (v := some (.ref 1000)) (x := x) rfl (by trivial) ⟨rfl, rfl⟩
  rw [if_neg h2] at hF
  refine am_Rr.ite (fun h3 => ?_) (fun h3 => ?_)
  · rw [if_pos h3] at hF
    refine am_Rr.go 1 (σ' := (100, [some (.int a)], [.ref 1000], x)) rfl ?_
    obtain rfl := Option.some.inj hF
    exact am_Rr.ret (v := some (.ref 1000)) (x := x) rfl (by trivial) ⟨rfl, rfl⟩
  rw [if_neg h3] at hF
  refine am_Rr.ite (fun h4 => ?_) (fun h4 => ?_)
  · rw [if_pos h4] at hF
    refine am_Rr.go 1 (σ' := (82, [some (.int a)], [.ref 1001], x)) rfl ?_
    obtain rfl := Option.some.inj hF
    exact am_Rr.ret (v := some (.ref 1001)) (x := x) rfl (by trivial) ⟨rfl, rfl⟩
  rw [if_neg h4] at hF
  refine am_Rr.ite (fun h5 => ?_) (fun h5 => ?_)
  · rw [if_pos h5] at hF
    refine am_Rr.go 1 (σ' := (100, [some (.int a)], [.ref 1000], x)) rfl ?_
    obtain rfl := Option.some.inj hF
    exact am_Rr.ret (v := some (.ref 1000)) (x := x) rfl (by trivial) ⟨rfl, rfl⟩
  rw [if_neg h5] at hF
  refine am_Rr.ite (fun h6 => ?_) (fun h6 => ?_)
  · rw [if_pos h6] at hF
    refine am_Rr.go 1 (σ' := (100, [some (.int a)], [.ref 1000], x)) rfl ?_
    obtain rfl := Option.some.inj hF
    exact am_Rr.ret (v := some (.ref 1000)) (x := x) rfl (by trivial) ⟨rfl, rfl⟩
  rw [if_neg h6] at hF
  refine am_Rr.ite (fun h7 => ?_) (fun h7 => ?_)
  · rw [if_pos h7] at hF
    refine am_Rr.go 1 (σ' := (100, [some (.int a)], [.ref 1000], x)) rfl ?_
    obtain rfl := Option.some.inj hF
    exact am_Rr.ret (v := some (.ref 1000)) (x := x) rfl (by trivial) ⟨rfl, rfl⟩
  rw [if_neg h7] at hF
  refine am_Rr.ite (fun h8 => ?_) (fun h8 => ?_)
  · rw [if_pos h8] at hF
    refine am_Rr.go 1 (σ' := (100, [some (.int a)], [.ref 1000], x)) rfl ?_
    obtain rfl := Option.some.inj hF
    exact am_Rr.ret (v := some (.ref 1000)) (x := x) rfl (by trivial) ⟨rfl, rfl⟩
  rw [if_neg h8] at hF
  refine am_Rr.ite (fun h9 => ?_) (fun h9 => ?_)
  · rw [if_pos h9] at hF
    refine am_Rr.go 1 (σ' := (91, [some (.int a)], [.ref 1004], x)) rfl ?_
    obtain rfl := Option.some.inj hF
    exact am_Rr.ret (v := some (.ref 1004)) (x := x) rfl (by trivial) ⟨rfl, rfl⟩
  rw [if_neg h9] at hF
  refine am_Rr.ite (fun h10 => ?_) (fun h10 => ?_)
  · rw [if_pos h10] at hF
    refine am_Rr.go 1 (σ' := (100, [some (.int a)], [.ref 1000], x)) rfl ?_
    obtain rfl := Option.some.inj hF
    exact am_Rr.ret (v := some (.ref 1000)) (x := x) rfl (by trivial) ⟨rfl, rfl⟩
  rw [if_neg h10] at hF
  refine am_Rr.ite (fun h11 => ?_) (fun h11 => ?_)
  · rw [if_pos h11] at hF
    refine am_Rr.go 1 (σ' := (100, [some (.int a)], [.ref 1000], x)) rfl ?_
    obtain rfl := Option.some.inj hF
    exact am_Rr.ret (v := some (.ref 1000)) (x := x) rfl (by trivial) ⟨rfl, rfl⟩
  rw [if_neg h11] at hF
  refine am_Rr.ite (fun h12 => ?_) (fun h12 => ?_)
  · rw [if_pos h12] at hF
    refine am_Rr.go 1 (σ' := (97, [some (.int a)], [.ref 1005], x)) rfl ?_
    obtain rfl := Option.some.inj hF
    exact am_Rr.ret (v := some (.ref 1005)) (x := x) rfl (by trivial) ⟨rfl, rfl⟩
  rw [if_neg h12] at hF
  refine am_Rr.ite (fun h13 => ?_) (fun h13 => ?_)
  · rw [if_pos h13] at hF
    refine am_Rr.go 1 (σ' := (100, [some (.int a)], [.ref 1000], x)) rfl ?_
    obtain rfl := Option.some.inj hF
    exact am_Rr.ret (v := some (.ref 1000)) (x := x) rfl (by trivial) ⟨rfl, rfl⟩
  rw [if_neg h13] at hF
  refine am_Rr.ite (fun h14 => ?_) (fun h14 => ?_)
  · rw [if_pos h14] at hF
    refine am_Rr.go 1 (σ' := (100, [some (.int a)], [.ref 1000], x)) rfl ?_
    obtain rfl := Option.some.inj hF
    exact am_Rr.ret (v := some (.ref 1000)) (x := x) rfl (by trivial) ⟨rfl, rfl⟩
  rw [if_neg h14] at hF
  refine am_Rr.ite (fun h15 => ?_) (fun h15 => ?_)
  · rw [if_pos h15] at hF
    refine am_Rr.go 1 (σ' := (85, [some (.int a)], [.ref 1002], x)) rfl ?_
    obtain rfl := Option.some.inj hF
    exact am_Rr.ret (v := some (.ref 1002)) (x := x) rfl (by trivial) ⟨rfl, rfl⟩
  rw [if_neg h15] at hF
  refine am_Rr.ite (fun h16 => ?_) (fun h16 => ?_)
  · rw [if_pos h16] at hF
    refine am_Rr.go 1 (σ' := (94, [some (.int a)], [.ref 1004], x)) rfl ?_
    obtain rfl := Option.some.inj hF
    exact am_Rr.ret (v := some (.ref 1004)) (x := x) rfl (by trivial) ⟨rfl, rfl⟩
  rw [if_neg h16] at hF
  refine am_Rr.go 1 (σ' := (100, [some (.int a)], [.ref 1000], x)) rfl ?_
  obtain rfl := Option.some.inj hF
  exact am_Rr.ret (v := some (.ref 1000)) (x := x) rfl (by trivial) ⟨rfl, rfl⟩
noncomputable def G_X5_fits (a : Int32) (b : Int32) (x : am_X) : Option (Int32 × am_X) := (if b = 68 then (if a < 48 then some ((0 : Int32), x) else (if (57 : Int32) < a then some ((0 : Int32), x) else some ((1 : Int32), x))) else (if b = 75 then (if (am_idx ((a.toUInt32 % 65536).toInt32) (am_byt 1006) 0) < 0 then some ((0 : Int32), x) else some ((1 : Int32), x)) else (if b = 83 then (if (am_idx ((a.toUInt32 % 65536).toInt32) (am_byt 1007) 0) < 0 then some ((0 : Int32), x) else some ((1 : Int32), x)) else (if a = b then some ((1 : Int32), x) else some ((0 : Int32), x)))))
theorem A_X5_fits (d : Nat) {a : Int32} {b : Int32} {x : am_X} {res : Int32 × am_X} (hF : G_X5_fits a b x = some res) : am_T (d + 6) mX5_fits [.int a, .int b] x (fun ro y => ro = some (.int res.1) ∧ res.2 = y) := by
  refine am_T.of rfl ?_
  show am_Rr (d + 5) kX5_fits (0, [some (.int a), some (.int b)], [], x) _
  unfold G_X5_fits at hF
  refine am_Rr.go 2 (σ' := ((if b = 68 then 68 else (if b = 75 then 36 else (if b = 83 then 52 else 86))), [some (.int a), some (.int b)], [], x)) rfl ?_
  refine am_Rr.ite (fun h1 => ?_) (fun h1 => ?_)
  · rw [if_pos h1] at hF
    refine am_Rr.go 3 (σ' := (if a < 48 then 84 else 74, [some (.int a), some (.int b)], [], x)) rfl ?_
    refine am_Rr.ite (fun h2 => ?_) (fun h2 => ?_)
    · rw [if_pos h2] at hF
      refine am_Rr.go 1 (σ' := (85, [some (.int a), some (.int b)], [.int 0], x)) rfl ?_
      obtain rfl := Option.some.inj hF
      exact am_Rr.ret (v := some (.int 0)) (x := x) rfl (by first | exact Or.inl rfl | exact Or.inr rfl | assumption) ⟨rfl, rfl⟩
    · rw [if_neg h2] at hF
      refine am_Rr.go 3 (σ' := (if (57 : Int32) < a then 84 else 80, [some (.int a), some (.int b)], [], x)) rfl ?_
      refine am_Rr.ite (fun h3 => ?_) (fun h3 => ?_)
      · rw [if_pos h3] at hF
        refine am_Rr.go 1 (σ' := (85, [some (.int a), some (.int b)], [.int 0], x)) rfl ?_
        obtain rfl := Option.some.inj hF
        exact am_Rr.ret (v := some (.int 0)) (x := x) rfl (by first | exact Or.inl rfl | exact Or.inr rfl | assumption) ⟨rfl, rfl⟩
      · rw [if_neg h3] at hF
        refine am_Rr.go 2 (σ' := (85, [some (.int a), some (.int b)], [.int 1], x)) rfl ?_
        obtain rfl := Option.some.inj hF
        exact am_Rr.ret (v := some (.int 1)) (x := x) rfl (by first | exact Or.inl rfl | exact Or.inr rfl | assumption) ⟨rfl, rfl⟩
  rw [if_neg h1] at hF
  refine am_Rr.ite (fun h4 => ?_) (fun h4 => ?_)
  · rw [if_pos h4] at hF
    refine am_Rr.go 3 (σ' := (40, [some (.int a), some (.int b)], [.int ((a.toUInt32 % 65536).toInt32), .ref 1006], x)) rfl ?_
    refine am_Rr.call (M := mJ0_indexOf_0f7a4) (as := [.ref 1006, .int ((a.toUInt32 % 65536).toInt32)]) (x := x) (pc := 43) (ls := [some (.int a), some (.int b)]) (st := []) rfl (E_indexOf d 1006 ((a.toUInt32 % 65536).toInt32) (by decide) x) ?_
    rintro _ _ ⟨rfl, rfl⟩
    show am_Rr _ _ (43, [some (.int a), some (.int b)], [.int (am_idx ((a.toUInt32 % 65536).toInt32) (am_byt 1006) 0)], x) _
    refine am_Rr.go 1 (σ' := (if (am_idx ((a.toUInt32 % 65536).toInt32) (am_byt 1006) 0) < 0 then 50 else 46, [some (.int a), some (.int b)], [], x)) rfl ?_
    refine am_Rr.ite (fun h5 => ?_) (fun h5 => ?_)
    · rw [if_pos h5] at hF
      refine am_Rr.go 1 (σ' := (51, [some (.int a), some (.int b)], [.int 0], x)) rfl ?_
      obtain rfl := Option.some.inj hF
      exact am_Rr.ret (v := some (.int 0)) (x := x) rfl (by first | exact Or.inl rfl | exact Or.inr rfl | assumption) ⟨rfl, rfl⟩
    · rw [if_neg h5] at hF
      refine am_Rr.go 2 (σ' := (51, [some (.int a), some (.int b)], [.int 1], x)) rfl ?_
      obtain rfl := Option.some.inj hF
      exact am_Rr.ret (v := some (.int 1)) (x := x) rfl (by first | exact Or.inl rfl | exact Or.inr rfl | assumption) ⟨rfl, rfl⟩
  rw [if_neg h4] at hF
  refine am_Rr.ite (fun h6 => ?_) (fun h6 => ?_)
  · rw [if_pos h6] at hF
    refine am_Rr.go 3 (σ' := (56, [some (.int a), some (.int b)], [.int ((a.toUInt32 % 65536).toInt32), .ref 1007], x)) rfl ?_
    refine am_Rr.call (M := mJ0_indexOf_0f7a4) (as := [.ref 1007, .int ((a.toUInt32 % 65536).toInt32)]) (x := x) (pc := 59) (ls := [some (.int a), some (.int b)]) (st := []) rfl (E_indexOf d 1007 ((a.toUInt32 % 65536).toInt32) (by decide) x) ?_
    rintro _ _ ⟨rfl, rfl⟩
    show am_Rr _ _ (59, [some (.int a), some (.int b)], [.int (am_idx ((a.toUInt32 % 65536).toInt32) (am_byt 1007) 0)], x) _
    refine am_Rr.go 1 (σ' := (if (am_idx ((a.toUInt32 % 65536).toInt32) (am_byt 1007) 0) < 0 then 66 else 62, [some (.int a), some (.int b)], [], x)) rfl ?_
    refine am_Rr.ite (fun h7 => ?_) (fun h7 => ?_)
    · rw [if_pos h7] at hF
      refine am_Rr.go 1 (σ' := (67, [some (.int a), some (.int b)], [.int 0], x)) rfl ?_
      obtain rfl := Option.some.inj hF
      exact am_Rr.ret (v := some (.int 0)) (x := x) rfl (by first | exact Or.inl rfl | exact Or.inr rfl | assumption) ⟨rfl, rfl⟩
    · rw [if_neg h7] at hF
      refine am_Rr.go 2 (σ' := (67, [some (.int a), some (.int b)], [.int 1], x)) rfl ?_
      obtain rfl := Option.some.inj hF
      exact am_Rr.ret (v := some (.int 1)) (x := x) rfl (by first | exact Or.inl rfl | exact Or.inr rfl | assumption) ⟨rfl, rfl⟩
  rw [if_neg h6] at hF
  refine am_Rr.go 3 (σ' := (if a = b then 91 else 95, [some (.int a), some (.int b)], [], x)) rfl ?_
  refine am_Rr.ite (fun h8 => ?_) (fun h8 => ?_)
  · rw [if_pos h8] at hF
    refine am_Rr.go 2 (σ' := (96, [some (.int a), some (.int b)], [.int 1], x)) rfl ?_
    obtain rfl := Option.some.inj hF
    exact am_Rr.ret (v := some (.int 1)) (x := x) rfl (by first | exact Or.inl rfl | exact Or.inr rfl | assumption) ⟨rfl, rfl⟩
  · rw [if_neg h8] at hF
    refine am_Rr.go 1 (σ' := (96, [some (.int a), some (.int b)], [.int 0], x)) rfl ?_
    obtain rfl := Option.some.inj hF
    exact am_Rr.ret (v := some (.int 0)) (x := x) rfl (by first | exact Or.inl rfl | exact Or.inr rfl | assumption) ⟨rfl, rfl⟩
noncomputable def G_X5_digitAt_13 (a : Int32) (x : am_X) : Option (Int32 × am_X) := some (((am_nat14 (x.1 449) (x.2.2.1 15) a) - 48), x)
theorem A_X5_digitAt_13 (d : Nat) {a : Int32} {x : am_X} {res : Int32 × am_X} (hF : G_X5_digitAt_13 a x = some res) : am_T (d + 3) mX5_digitAt [.ref 13, .int a] x (fun ro y => ro = some (.int res.1) ∧ res.2 = y) := by
  refine am_T.of rfl ?_
  show am_Rr (d + 2) kX5_digitAt (0, [some (.ref 13), some (.int a)], [], x) _
  unfold G_X5_digitAt_13 at hF
  refine am_Rr.go 3 (σ' := (5, [some (.ref 13), some (.int a)], [.int a, .ref 14], x)) rfl ?_
  refine am_Rr.call (pc := 8) (ls := [some (.ref 13), some (.int a)]) (st := []) rfl (S_at_14 d a x) ?_
  rintro _ _ ⟨rfl, rfl⟩
  show am_Rr _ _ (8, [some (.ref 13), some (.int a)], [.int (am_nat14 (x.1 449) (x.2.2.1 15) a)], x) _
  refine am_Rr.go 2 (σ' := (11, [some (.ref 13), some (.int a)], [.int ((am_nat14 (x.1 449) (x.2.2.1 15) a) - 48)], x)) rfl ?_
  obtain rfl := Option.some.inj hF
  exact am_Rr.ret (v := some (.int ((am_nat14 (x.1 449) (x.2.2.1 15) a) - 48))) (x := x) rfl (by trivial) ⟨rfl, rfl⟩
noncomputable def G_X5_pairAt_13 (a : Int32) (x : am_X) : Option (Int32 × am_X) := (match G_X5_digitAt_13 a x with | none => none | some (r1, x2) => (match G_X5_digitAt_13 (a + 1) x2 with | none => none | some (r4, x5) => some ((((10 : Int32) * r1) + r4), x5)))
theorem A_X5_pairAt_13 (d : Nat) {a : Int32} {x : am_X} {res : Int32 × am_X} (hF : G_X5_pairAt_13 a x = some res) : am_T (d + 4) mX5_pairAt [.ref 13, .int a] x (fun ro y => ro = some (.int res.1) ∧ res.2 = y) := by
  refine am_T.of rfl ?_
  show am_Rr (d + 3) kX5_pairAt (0, [some (.ref 13), some (.int a)], [], x) _
  unfold G_X5_pairAt_13 at hF
  refine am_Rr.go 3 (σ' := (4, [some (.ref 13), some (.int a)], [.int a, .ref 13, .int 10], x)) rfl ?_
  cases g3 : G_X5_digitAt_13 a x with
  | none => rw [g3] at hF; cases hF
  | some q_ =>
    obtain ⟨r1, x2⟩ := q_
    rw [g3] at hF
    dsimp only at hF
    refine am_Rr.call (pc := 7) (ls := [some (.ref 13), some (.int a)]) (st := [.int 10]) rfl (A_X5_digitAt_13 d g3) ?_
    rintro _ _ ⟨rfl, rfl⟩
    show am_Rr _ _ (7, [some (.ref 13), some (.int a)], [.int r1, .int 10], x2) _
    refine am_Rr.go 5 (σ' := (12, [some (.ref 13), some (.int a)], [.int (a + 1), .ref 13, .int ((10 : Int32) * r1)], x2)) rfl ?_
    cases g6 : G_X5_digitAt_13 (a + 1) x2 with
    | none => rw [g6] at hF; cases hF
    | some q_ =>
      obtain ⟨r4, x5⟩ := q_
      rw [g6] at hF
      dsimp only at hF
      refine am_Rr.call (pc := 15) (ls := [some (.ref 13), some (.int a)]) (st := [.int ((10 : Int32) * r1)]) rfl (A_X5_digitAt_13 d g6) ?_
      rintro _ _ ⟨rfl, rfl⟩
      show am_Rr _ _ (15, [some (.ref 13), some (.int a)], [.int r4, .int ((10 : Int32) * r1)], x5) _
      refine am_Rr.go 1 (σ' := (16, [some (.ref 13), some (.int a)], [.int (((10 : Int32) * r1) + r4)], x5)) rfl ?_
      obtain rfl := Option.some.inj hF
      exact am_Rr.ret (v := some (.int (((10 : Int32) * r1) + r4))) (x := x5) rfl (by trivial) ⟨rfl, rfl⟩
noncomputable def G_X5_comes_13_5 (a : Int32) (x : am_X) : Option (Int32 × am_X) := (if (am_nat14 (x.1 449) (x.2.2.1 15) a) = 104 then (match G_X5_pairAt_13 (a + 1) x with | none => none | some (r2, x3) => (if am_hasb (am_open (x3.2.2.2 6)) r2 then some ((1 : Int32), (am_uI x3 164 r2)) else some ((0 : Int32), x3))) else (if (am_nat14 (x.1 449) (x.2.2.1 15) a) = 105 then some ((0 : Int32), x) else (if (am_nat14 (x.1 449) (x.2.2.1 15) a) = 106 then some ((0 : Int32), x) else (if (am_nat14 (x.1 449) (x.2.2.1 15) a) = 107 then (match G_X5_pairAt_13 (a + 2) x with | none => none | some (r10, x11) => (match G_X5_pairAt_13 (a + 2) x11 with | none => none | some (r13, x14) => (if (am_sq r10 ∧ am_sq r13 ∧ r10.toInt ≤ r13.toInt ∧ 0 ≤ (am_idx (((am_nat14 (x.1 449) (x.2.2.1 15) (a + 1)).toUInt32 % 65536).toInt32) (am_byt 1006) 0).toInt ∧ (am_idx (((am_nat14 (x.1 449) (x.2.2.1 15) (a + 1)).toUInt32 % 65536).toInt32) (am_byt 1006) 0).toInt < 6 ∧ ¬ ((am_idx (((am_nat14 (x.1 449) (x.2.2.1 15) (a + 1)).toUInt32 % 65536).toInt32) (am_byt 1006) 0).toInt = 1 ∧ r10.toInt ≤ (x14.1 164).toInt ∧ (x14.1 164).toInt ≤ r13.toInt)) then some ((1 : Int32), (am_lay5 x14 (am_idx (((am_nat14 (x.1 449) (x.2.2.1 15) (a + 1)).toUInt32 % 65536).toInt32) (am_byt 1006) 0) r10 r13)) else some ((0 : Int32), x14)))) else (if (am_nat14 (x.1 449) (x.2.2.1 15) a) = 108 then some ((0 : Int32), x) else (if (am_nat14 (x.1 449) (x.2.2.1 15) a) = 109 then some ((0 : Int32), x) else (if (am_nat14 (x.1 449) (x.2.2.1 15) a) = 110 then some ((0 : Int32), x) else (if (am_nat14 (x.1 449) (x.2.2.1 15) a) = 111 then some ((0 : Int32), x) else (if (am_nat14 (x.1 449) (x.2.2.1 15) a) = 112 then (match G_X5_digitAt_13 (a + 1) x with | none => none | some (r23, x24) => (if 1 ≤ r23.toInt ∧ r23.toInt ≤ 9 then some ((1 : Int32), (am_uI x24 165 r23)) else some ((0 : Int32), x24))) else (if (am_nat14 (x.1 449) (x.2.2.1 15) a) = 113 then some ((0 : Int32), x) else (if (am_nat14 (x.1 449) (x.2.2.1 15) a) = 114 then some ((0 : Int32), x) else (if (am_nat14 (x.1 449) (x.2.2.1 15) a) = 115 then (match G_X5_pairAt_13 (a + 2) x with | none => none | some (r31, x32) => (if 0 ≤ (x32.1 163).toInt ∧ (x32.1 163).toInt < 3 ∧ am_sq r31 then some ((1 : Int32), (am_uI (am_sA (am_sA x32 7 (upd (x32.2.2.1 7) (x32.1 163).toNatClampNeg (am_idx (((am_nat14 (x.1 449) (x.2.2.1 15) (a + 1)).toUInt32 % 65536).toInt32) (am_byt 1007) 0))) 8 (upd (x32.2.2.1 8) (x32.1 163).toNatClampNeg r31)) 163 ((x32.1 163) + 1))) else some ((0 : Int32), x32))) else (if (am_nat14 (x.1 449) (x.2.2.1 15) a) = 116 then some ((0 : Int32), x) else (if (am_nat14 (x.1 449) (x.2.2.1 15) a) = 117 then some ((0 : Int32), x) else (if (am_nat14 (x.1 449) (x.2.2.1 15) a) = 118 then (match G_X5_pairAt_13 (a + 2) x with | none => none | some (r39, x40) => (match G_X5_pairAt_13 (a + 4) x40 with | none => none | some (r42, x43) => (if (am_sq r39 ∧ am_sq r42 ∧ r39.toInt ≤ r42.toInt ∧ 0 ≤ (am_idx (((am_nat14 (x.1 449) (x.2.2.1 15) (a + 1)).toUInt32 % 65536).toInt32) (am_byt 1006) 0).toInt ∧ (am_idx (((am_nat14 (x.1 449) (x.2.2.1 15) (a + 1)).toUInt32 % 65536).toInt32) (am_byt 1006) 0).toInt < 6 ∧ ¬ ((am_idx (((am_nat14 (x.1 449) (x.2.2.1 15) (a + 1)).toUInt32 % 65536).toInt32) (am_byt 1006) 0).toInt = 1 ∧ r39.toInt ≤ (x43.1 164).toInt ∧ (x43.1 164).toInt ≤ r42.toInt)) then some ((1 : Int32), (am_lay5 x43 (am_idx (((am_nat14 (x.1 449) (x.2.2.1 15) (a + 1)).toUInt32 % 65536).toInt32) (am_byt 1006) 0) r39 r42)) else some ((0 : Int32), x43)))) else (if (am_nat14 (x.1 449) (x.2.2.1 15) a) = 119 then (match G_X5_digitAt_13 (a + 1) x with | none => none | some (r48, x49) => (if 0 ≤ r48.toInt ∧ r48.toInt ≤ 9 then some ((1 : Int32), (am_uI x49 166 r48)) else some ((0 : Int32), x49))) else some ((0 : Int32), x)))))))))))))))))
theorem A_X5_comes_13_5 (d : Nat) {a : Int32} {x : am_X} {res : Int32 × am_X} (hF : G_X5_comes_13_5 a x = some res) : am_T (d + 6) mX5_comes [.ref 13, .ref 5, .int a] x (fun ro y => ro = some (.int res.1) ∧ res.2 = y) := by
  refine am_T.of rfl ?_
  show am_Rr (d + 5) kX5_comes (0, [some (.ref 13), some (.ref 5), some (.int a), none], [], x) _
  unfold G_X5_comes_13_5 at hF
  refine am_Rr.go 5 (σ' := (7, [some (.ref 13), some (.ref 5), some (.int a), none], [.int (a + 1), .ref 14], x)) rfl ?_
  refine am_Rr.call (pc := 10) (ls := [some (.ref 13), some (.ref 5), some (.int a), none]) (st := []) rfl (S_at_14 (d + 3) (a + 1) x) ?_
  rintro _ _ ⟨rfl, rfl⟩
  show am_Rr _ _ (10, [some (.ref 13), some (.ref 5), some (.int a), none], [.int (am_nat14 (x.1 449) (x.2.2.1 15) (a + 1))], x) _
  refine am_Rr.go 4 (σ' := (16, [some (.ref 13), some (.ref 5), some (.int a), some (.int (am_nat14 (x.1 449) (x.2.2.1 15) (a + 1)))], [.int a, .ref 14], x)) rfl ?_
  refine am_Rr.call (pc := 19) (ls := [some (.ref 13), some (.ref 5), some (.int a), some (.int (am_nat14 (x.1 449) (x.2.2.1 15) (a + 1)))]) (st := []) rfl (S_at_14 (d + 3) a x) ?_
  rintro _ _ ⟨rfl, rfl⟩
  show am_Rr _ _ (19, [some (.ref 13), some (.ref 5), some (.int a), some (.int (am_nat14 (x.1 449) (x.2.2.1 15) (a + 1)))], [.int (am_nat14 (x.1 449) (x.2.2.1 15) a)], x) _
  refine am_Rr.go 1 (σ' := ((if (am_nat14 (x.1 449) (x.2.2.1 15) a) = 104 then 148 else (if (am_nat14 (x.1 449) (x.2.2.1 15) a) = 105 then 203 else (if (am_nat14 (x.1 449) (x.2.2.1 15) a) = 106 then 203 else (if (am_nat14 (x.1 449) (x.2.2.1 15) a) = 107 then 96 else (if (am_nat14 (x.1 449) (x.2.2.1 15) a) = 108 then 203 else (if (am_nat14 (x.1 449) (x.2.2.1 15) a) = 109 then 203 else (if (am_nat14 (x.1 449) (x.2.2.1 15) a) = 110 then 203 else (if (am_nat14 (x.1 449) (x.2.2.1 15) a) = 111 then 203 else (if (am_nat14 (x.1 449) (x.2.2.1 15) a) = 112 then 160 else (if (am_nat14 (x.1 449) (x.2.2.1 15) a) = 113 then 203 else (if (am_nat14 (x.1 449) (x.2.2.1 15) a) = 114 then 203 else (if (am_nat14 (x.1 449) (x.2.2.1 15) a) = 115 then 184 else (if (am_nat14 (x.1 449) (x.2.2.1 15) a) = 116 then 203 else (if (am_nat14 (x.1 449) (x.2.2.1 15) a) = 117 then 203 else (if (am_nat14 (x.1 449) (x.2.2.1 15) a) = 118 then 122 else (if (am_nat14 (x.1 449) (x.2.2.1 15) a) = 119 then 172 else 203)))))))))))))))), [some (.ref 13), some (.ref 5), some (.int a), some (.int (am_nat14 (x.1 449) (x.2.2.1 15) (a + 1)))], [], x)) rfl ?_
  refine am_Rr.ite (fun h1 => ?_) (fun h1 => ?_)
  · rw [if_pos h1] at hF
    refine am_Rr.go 5 (σ' := (153, [some (.ref 13), some (.ref 5), some (.int a), some (.int (am_nat14 (x.1 449) (x.2.2.1 15) (a + 1)))], [.int (a + 1), .ref 13, .ref 5], x)) rfl ?_
    cases g4 : G_X5_pairAt_13 (a + 1) x with
    | none => rw [g4] at hF; cases hF
    | some q_ =>
      obtain ⟨r2, x3⟩ := q_
      rw [g4] at hF
      dsimp only at hF
      refine am_Rr.call (pc := 156) (ls := [some (.ref 13), some (.ref 5), some (.int a), some (.int (am_nat14 (x.1 449) (x.2.2.1 15) (a + 1)))]) (st := [.ref 5]) rfl (A_X5_pairAt_13 (d + 1) g4) ?_
      rintro _ _ ⟨rfl, rfl⟩
      show am_Rr _ _ (156, [some (.ref 13), some (.ref 5), some (.int a), some (.int (am_nat14 (x.1 449) (x.2.2.1 15) (a + 1)))], [.int r2, .ref 5], x3) _
      refine am_Rr.call (pc := 159) (ls := [some (.ref 13), some (.ref 5), some (.int a), some (.int (am_nat14 (x.1 449) (x.2.2.1 15) (a + 1)))]) (st := []) rfl (S_liveAt_5 d r2 x3) ?_
      rintro _ _ (⟨b5, rfl, rfl⟩ | ⟨b6, rfl, rfl⟩)
      · rw [if_pos b5] at hF
        show am_Rr _ _ (159, [some (.ref 13), some (.ref 5), some (.int a), some (.int (am_nat14 (x.1 449) (x.2.2.1 15) (a + 1)))], [.int 1], (am_uI x3 164 r2)) _
        obtain rfl := Option.some.inj hF
        exact am_Rr.ret (v := some (.int 1)) (x := (am_uI x3 164 r2)) rfl (by first | exact Or.inl rfl | exact Or.inr rfl | assumption) ⟨rfl, rfl⟩
      · rw [if_neg b6] at hF
        show am_Rr _ _ (159, [some (.ref 13), some (.ref 5), some (.int a), some (.int (am_nat14 (x.1 449) (x.2.2.1 15) (a + 1)))], [.int 0], x3) _
        obtain rfl := Option.some.inj hF
        exact am_Rr.ret (v := some (.int 0)) (x := x3) rfl (by first | exact Or.inl rfl | exact Or.inr rfl | assumption) ⟨rfl, rfl⟩
  rw [if_neg h1] at hF
  refine am_Rr.ite (fun h7 => ?_) (fun h7 => ?_)
  · rw [if_pos h7] at hF
    refine am_Rr.go 1 (σ' := (204, [some (.ref 13), some (.ref 5), some (.int a), some (.int (am_nat14 (x.1 449) (x.2.2.1 15) (a + 1)))], [.int 0], x)) rfl ?_
    obtain rfl := Option.some.inj hF
    exact am_Rr.ret (v := some (.int 0)) (x := x) rfl (by first | exact Or.inl rfl | exact Or.inr rfl | assumption) ⟨rfl, rfl⟩
  rw [if_neg h7] at hF
  refine am_Rr.ite (fun h8 => ?_) (fun h8 => ?_)
  · rw [if_pos h8] at hF
    refine am_Rr.go 1 (σ' := (204, [some (.ref 13), some (.ref 5), some (.int a), some (.int (am_nat14 (x.1 449) (x.2.2.1 15) (a + 1)))], [.int 0], x)) rfl ?_
    obtain rfl := Option.some.inj hF
    exact am_Rr.ret (v := some (.int 0)) (x := x) rfl (by first | exact Or.inl rfl | exact Or.inr rfl | assumption) ⟨rfl, rfl⟩
  rw [if_neg h8] at hF
  refine am_Rr.ite (fun h9 => ?_) (fun h9 => ?_)
  · rw [if_pos h9] at hF
    refine am_Rr.go 4 (σ' := (101, [some (.ref 13), some (.ref 5), some (.int a), some (.int (am_nat14 (x.1 449) (x.2.2.1 15) (a + 1)))], [.int (((am_nat14 (x.1 449) (x.2.2.1 15) (a + 1)).toUInt32 % 65536).toInt32), .ref 1006, .ref 5], x)) rfl ?_
    refine am_Rr.call (M := mJ0_indexOf_0f7a4) (as := [.ref 1006, .int (((am_nat14 (x.1 449) (x.2.2.1 15) (a + 1)).toUInt32 % 65536).toInt32)]) (x := x) (pc := 104) (ls := [some (.ref 13), some (.ref 5), some (.int a), some (.int (am_nat14 (x.1 449) (x.2.2.1 15) (a + 1)))]) (st := [.ref 5]) rfl (E_indexOf d 1006 (((am_nat14 (x.1 449) (x.2.2.1 15) (a + 1)).toUInt32 % 65536).toInt32) (by decide) x) ?_
    rintro _ _ ⟨rfl, rfl⟩
    show am_Rr _ _ (104, [some (.ref 13), some (.ref 5), some (.int a), some (.int (am_nat14 (x.1 449) (x.2.2.1 15) (a + 1)))], [.int (am_idx (((am_nat14 (x.1 449) (x.2.2.1 15) (a + 1)).toUInt32 % 65536).toInt32) (am_byt 1006) 0), .ref 5], x) _
    refine am_Rr.go 4 (σ' := (108, [some (.ref 13), some (.ref 5), some (.int a), some (.int (am_nat14 (x.1 449) (x.2.2.1 15) (a + 1)))], [.int (a + 2), .ref 13, .int (am_idx (((am_nat14 (x.1 449) (x.2.2.1 15) (a + 1)).toUInt32 % 65536).toInt32) (am_byt 1006) 0), .ref 5], x)) rfl ?_
    cases g12 : G_X5_pairAt_13 (a + 2) x with
    | none => rw [g12] at hF; cases hF
    | some q_ =>
      obtain ⟨r10, x11⟩ := q_
      rw [g12] at hF
      dsimp only at hF
      refine am_Rr.call (pc := 111) (ls := [some (.ref 13), some (.ref 5), some (.int a), some (.int (am_nat14 (x.1 449) (x.2.2.1 15) (a + 1)))]) (st := [.int (am_idx (((am_nat14 (x.1 449) (x.2.2.1 15) (a + 1)).toUInt32 % 65536).toInt32) (am_byt 1006) 0), .ref 5]) rfl (A_X5_pairAt_13 (d + 1) g12) ?_
      rintro _ _ ⟨rfl, rfl⟩
      show am_Rr _ _ (111, [some (.ref 13), some (.ref 5), some (.int a), some (.int (am_nat14 (x.1 449) (x.2.2.1 15) (a + 1)))], [.int r10, .int (am_idx (((am_nat14 (x.1 449) (x.2.2.1 15) (a + 1)).toUInt32 % 65536).toInt32) (am_byt 1006) 0), .ref 5], x11) _
      refine am_Rr.go 4 (σ' := (115, [some (.ref 13), some (.ref 5), some (.int a), some (.int (am_nat14 (x.1 449) (x.2.2.1 15) (a + 1)))], [.int (a + 2), .ref 13, .int r10, .int (am_idx (((am_nat14 (x.1 449) (x.2.2.1 15) (a + 1)).toUInt32 % 65536).toInt32) (am_byt 1006) 0), .ref 5], x11)) rfl ?_
      cases g15 : G_X5_pairAt_13 (a + 2) x11 with
      | none => rw [g15] at hF; cases hF
      | some q_ =>
        obtain ⟨r13, x14⟩ := q_
        rw [g15] at hF
        dsimp only at hF
        refine am_Rr.call (pc := 118) (ls := [some (.ref 13), some (.ref 5), some (.int a), some (.int (am_nat14 (x.1 449) (x.2.2.1 15) (a + 1)))]) (st := [.int r10, .int (am_idx (((am_nat14 (x.1 449) (x.2.2.1 15) (a + 1)).toUInt32 % 65536).toInt32) (am_byt 1006) 0), .ref 5]) rfl (A_X5_pairAt_13 (d + 1) g15) ?_
        rintro _ _ ⟨rfl, rfl⟩
        show am_Rr _ _ (118, [some (.ref 13), some (.ref 5), some (.int a), some (.int (am_nat14 (x.1 449) (x.2.2.1 15) (a + 1)))], [.int r13, .int r10, .int (am_idx (((am_nat14 (x.1 449) (x.2.2.1 15) (a + 1)).toUInt32 % 65536).toInt32) (am_byt 1006) 0), .ref 5], x14) _
        refine am_Rr.call (pc := 121) (ls := [some (.ref 13), some (.ref 5), some (.int a), some (.int (am_nat14 (x.1 449) (x.2.2.1 15) (a + 1)))]) (st := []) rfl (S_lay_5 (d + 2) (am_idx (((am_nat14 (x.1 449) (x.2.2.1 15) (a + 1)).toUInt32 % 65536).toInt32) (am_byt 1006) 0) r10 r13 x14) ?_
        rintro _ _ (⟨b16, rfl, rfl⟩ | ⟨b17, rfl, rfl⟩)
        · rw [if_pos b16] at hF
          show am_Rr _ _ (121, [some (.ref 13), some (.ref 5), some (.int a), some (.int (am_nat14 (x.1 449) (x.2.2.1 15) (a + 1)))], [.int 1], (am_lay5 x14 (am_idx (((am_nat14 (x.1 449) (x.2.2.1 15) (a + 1)).toUInt32 % 65536).toInt32) (am_byt 1006) 0) r10 r13)) _
          obtain rfl := Option.some.inj hF
          exact am_Rr.ret (v := some (.int 1)) (x := (am_lay5 x14 (am_idx (((am_nat14 (x.1 449) (x.2.2.1 15) (a + 1)).toUInt32 % 65536).toInt32) (am_byt 1006) 0) r10 r13)) rfl (by first | exact Or.inl rfl | exact Or.inr rfl | assumption) ⟨rfl, rfl⟩
        · rw [if_neg b17] at hF
          show am_Rr _ _ (121, [some (.ref 13), some (.ref 5), some (.int a), some (.int (am_nat14 (x.1 449) (x.2.2.1 15) (a + 1)))], [.int 0], x14) _
          obtain rfl := Option.some.inj hF
          exact am_Rr.ret (v := some (.int 0)) (x := x14) rfl (by first | exact Or.inl rfl | exact Or.inr rfl | assumption) ⟨rfl, rfl⟩
  rw [if_neg h9] at hF
  refine am_Rr.ite (fun h18 => ?_) (fun h18 => ?_)
  · rw [if_pos h18] at hF
    refine am_Rr.go 1 (σ' := (204, [some (.ref 13), some (.ref 5), some (.int a), some (.int (am_nat14 (x.1 449) (x.2.2.1 15) (a + 1)))], [.int 0], x)) rfl ?_
    obtain rfl := Option.some.inj hF
    exact am_Rr.ret (v := some (.int 0)) (x := x) rfl (by first | exact Or.inl rfl | exact Or.inr rfl | assumption) ⟨rfl, rfl⟩
  rw [if_neg h18] at hF
  refine am_Rr.ite (fun h19 => ?_) (fun h19 => ?_)
  · rw [if_pos h19] at hF
    refine am_Rr.go 1 (σ' := (204, [some (.ref 13), some (.ref 5), some (.int a), some (.int (am_nat14 (x.1 449) (x.2.2.1 15) (a + 1)))], [.int 0], x)) rfl ?_
    obtain rfl := Option.some.inj hF
    exact am_Rr.ret (v := some (.int 0)) (x := x) rfl (by first | exact Or.inl rfl | exact Or.inr rfl | assumption) ⟨rfl, rfl⟩
  rw [if_neg h19] at hF
  refine am_Rr.ite (fun h20 => ?_) (fun h20 => ?_)
  · rw [if_pos h20] at hF
    refine am_Rr.go 1 (σ' := (204, [some (.ref 13), some (.ref 5), some (.int a), some (.int (am_nat14 (x.1 449) (x.2.2.1 15) (a + 1)))], [.int 0], x)) rfl ?_
    obtain rfl := Option.some.inj hF
    exact am_Rr.ret (v := some (.int 0)) (x := x) rfl (by first | exact Or.inl rfl | exact Or.inr rfl | assumption) ⟨rfl, rfl⟩
  rw [if_neg h20] at hF
  refine am_Rr.ite (fun h21 => ?_) (fun h21 => ?_)
  · rw [if_pos h21] at hF
    refine am_Rr.go 1 (σ' := (204, [some (.ref 13), some (.ref 5), some (.int a), some (.int (am_nat14 (x.1 449) (x.2.2.1 15) (a + 1)))], [.int 0], x)) rfl ?_
    obtain rfl := Option.some.inj hF
    exact am_Rr.ret (v := some (.int 0)) (x := x) rfl (by first | exact Or.inl rfl | exact Or.inr rfl | assumption) ⟨rfl, rfl⟩
  rw [if_neg h21] at hF
  refine am_Rr.ite (fun h22 => ?_) (fun h22 => ?_)
  · rw [if_pos h22] at hF
    refine am_Rr.go 5 (σ' := (165, [some (.ref 13), some (.ref 5), some (.int a), some (.int (am_nat14 (x.1 449) (x.2.2.1 15) (a + 1)))], [.int (a + 1), .ref 13, .ref 5], x)) rfl ?_
    cases g25 : G_X5_digitAt_13 (a + 1) x with
    | none => rw [g25] at hF; cases hF
    | some q_ =>
      obtain ⟨r23, x24⟩ := q_
      rw [g25] at hF
      dsimp only at hF
      refine am_Rr.call (pc := 168) (ls := [some (.ref 13), some (.ref 5), some (.int a), some (.int (am_nat14 (x.1 449) (x.2.2.1 15) (a + 1)))]) (st := [.ref 5]) rfl (A_X5_digitAt_13 (d + 2) g25) ?_
      rintro _ _ ⟨rfl, rfl⟩
      show am_Rr _ _ (168, [some (.ref 13), some (.ref 5), some (.int a), some (.int (am_nat14 (x.1 449) (x.2.2.1 15) (a + 1)))], [.int r23, .ref 5], x24) _
      refine am_Rr.call (pc := 171) (ls := [some (.ref 13), some (.ref 5), some (.int a), some (.int (am_nat14 (x.1 449) (x.2.2.1 15) (a + 1)))]) (st := []) rfl (S_takePace_5 (d + 3) r23 x24) ?_
      rintro _ _ (⟨b26, rfl, rfl⟩ | ⟨b27, rfl, rfl⟩)
      · rw [if_pos b26] at hF
        show am_Rr _ _ (171, [some (.ref 13), some (.ref 5), some (.int a), some (.int (am_nat14 (x.1 449) (x.2.2.1 15) (a + 1)))], [.int 1], (am_uI x24 165 r23)) _
        obtain rfl := Option.some.inj hF
        exact am_Rr.ret (v := some (.int 1)) (x := (am_uI x24 165 r23)) rfl (by first | exact Or.inl rfl | exact Or.inr rfl | assumption) ⟨rfl, rfl⟩
      · rw [if_neg b27] at hF
        show am_Rr _ _ (171, [some (.ref 13), some (.ref 5), some (.int a), some (.int (am_nat14 (x.1 449) (x.2.2.1 15) (a + 1)))], [.int 0], x24) _
        obtain rfl := Option.some.inj hF
        exact am_Rr.ret (v := some (.int 0)) (x := x24) rfl (by first | exact Or.inl rfl | exact Or.inr rfl | assumption) ⟨rfl, rfl⟩
  rw [if_neg h22] at hF
  refine am_Rr.ite (fun h28 => ?_) (fun h28 => ?_)
  · rw [if_pos h28] at hF
    refine am_Rr.go 1 (σ' := (204, [some (.ref 13), some (.ref 5), some (.int a), some (.int (am_nat14 (x.1 449) (x.2.2.1 15) (a + 1)))], [.int 0], x)) rfl ?_
    obtain rfl := Option.some.inj hF
    exact am_Rr.ret (v := some (.int 0)) (x := x) rfl (by first | exact Or.inl rfl | exact Or.inr rfl | assumption) ⟨rfl, rfl⟩
  rw [if_neg h28] at hF
  refine am_Rr.ite (fun h29 => ?_) (fun h29 => ?_)
  · rw [if_pos h29] at hF
    refine am_Rr.go 1 (σ' := (204, [some (.ref 13), some (.ref 5), some (.int a), some (.int (am_nat14 (x.1 449) (x.2.2.1 15) (a + 1)))], [.int 0], x)) rfl ?_
    obtain rfl := Option.some.inj hF
    exact am_Rr.ret (v := some (.int 0)) (x := x) rfl (by first | exact Or.inl rfl | exact Or.inr rfl | assumption) ⟨rfl, rfl⟩
  rw [if_neg h29] at hF
  refine am_Rr.ite (fun h30 => ?_) (fun h30 => ?_)
  · rw [if_pos h30] at hF
    refine am_Rr.go 4 (σ' := (189, [some (.ref 13), some (.ref 5), some (.int a), some (.int (am_nat14 (x.1 449) (x.2.2.1 15) (a + 1)))], [.int (((am_nat14 (x.1 449) (x.2.2.1 15) (a + 1)).toUInt32 % 65536).toInt32), .ref 1007, .ref 5], x)) rfl ?_
    refine am_Rr.call (M := mJ0_indexOf_0f7a4) (as := [.ref 1007, .int (((am_nat14 (x.1 449) (x.2.2.1 15) (a + 1)).toUInt32 % 65536).toInt32)]) (x := x) (pc := 192) (ls := [some (.ref 13), some (.ref 5), some (.int a), some (.int (am_nat14 (x.1 449) (x.2.2.1 15) (a + 1)))]) (st := [.ref 5]) rfl (E_indexOf d 1007 (((am_nat14 (x.1 449) (x.2.2.1 15) (a + 1)).toUInt32 % 65536).toInt32) (by decide) x) ?_
    rintro _ _ ⟨rfl, rfl⟩
    show am_Rr _ _ (192, [some (.ref 13), some (.ref 5), some (.int a), some (.int (am_nat14 (x.1 449) (x.2.2.1 15) (a + 1)))], [.int (am_idx (((am_nat14 (x.1 449) (x.2.2.1 15) (a + 1)).toUInt32 % 65536).toInt32) (am_byt 1007) 0), .ref 5], x) _
    refine am_Rr.go 4 (σ' := (196, [some (.ref 13), some (.ref 5), some (.int a), some (.int (am_nat14 (x.1 449) (x.2.2.1 15) (a + 1)))], [.int (a + 2), .ref 13, .int (am_idx (((am_nat14 (x.1 449) (x.2.2.1 15) (a + 1)).toUInt32 % 65536).toInt32) (am_byt 1007) 0), .ref 5], x)) rfl ?_
    cases g33 : G_X5_pairAt_13 (a + 2) x with
    | none => rw [g33] at hF; cases hF
    | some q_ =>
      obtain ⟨r31, x32⟩ := q_
      rw [g33] at hF
      dsimp only at hF
      refine am_Rr.call (pc := 199) (ls := [some (.ref 13), some (.ref 5), some (.int a), some (.int (am_nat14 (x.1 449) (x.2.2.1 15) (a + 1)))]) (st := [.int (am_idx (((am_nat14 (x.1 449) (x.2.2.1 15) (a + 1)).toUInt32 % 65536).toInt32) (am_byt 1007) 0), .ref 5]) rfl (A_X5_pairAt_13 (d + 1) g33) ?_
      rintro _ _ ⟨rfl, rfl⟩
      show am_Rr _ _ (199, [some (.ref 13), some (.ref 5), some (.int a), some (.int (am_nat14 (x.1 449) (x.2.2.1 15) (a + 1)))], [.int r31, .int (am_idx (((am_nat14 (x.1 449) (x.2.2.1 15) (a + 1)).toUInt32 % 65536).toInt32) (am_byt 1007) 0), .ref 5], x32) _
      refine am_Rr.call (pc := 202) (ls := [some (.ref 13), some (.ref 5), some (.int a), some (.int (am_nat14 (x.1 449) (x.2.2.1 15) (a + 1)))]) (st := []) rfl (S_addSeeker_5 (d + 2) (am_idx (((am_nat14 (x.1 449) (x.2.2.1 15) (a + 1)).toUInt32 % 65536).toInt32) (am_byt 1007) 0) r31 x32) ?_
      rintro _ _ (⟨b34, rfl, rfl⟩ | ⟨b35, rfl, rfl⟩)
      · rw [if_pos b34] at hF
        show am_Rr _ _ (202, [some (.ref 13), some (.ref 5), some (.int a), some (.int (am_nat14 (x.1 449) (x.2.2.1 15) (a + 1)))], [.int 1], (am_uI (am_sA (am_sA x32 7 (upd (x32.2.2.1 7) (x32.1 163).toNatClampNeg (am_idx (((am_nat14 (x.1 449) (x.2.2.1 15) (a + 1)).toUInt32 % 65536).toInt32) (am_byt 1007) 0))) 8 (upd (x32.2.2.1 8) (x32.1 163).toNatClampNeg r31)) 163 ((x32.1 163) + 1))) _
        obtain rfl := Option.some.inj hF
        exact am_Rr.ret (v := some (.int 1)) (x := (am_uI (am_sA (am_sA x32 7 (upd (x32.2.2.1 7) (x32.1 163).toNatClampNeg (am_idx (((am_nat14 (x.1 449) (x.2.2.1 15) (a + 1)).toUInt32 % 65536).toInt32) (am_byt 1007) 0))) 8 (upd (x32.2.2.1 8) (x32.1 163).toNatClampNeg r31)) 163 ((x32.1 163) + 1))) rfl (by first | exact Or.inl rfl | exact Or.inr rfl | assumption) ⟨rfl, rfl⟩
      · rw [if_neg b35] at hF
        show am_Rr _ _ (202, [some (.ref 13), some (.ref 5), some (.int a), some (.int (am_nat14 (x.1 449) (x.2.2.1 15) (a + 1)))], [.int 0], x32) _
        obtain rfl := Option.some.inj hF
        exact am_Rr.ret (v := some (.int 0)) (x := x32) rfl (by first | exact Or.inl rfl | exact Or.inr rfl | assumption) ⟨rfl, rfl⟩
  rw [if_neg h30] at hF
  refine am_Rr.ite (fun h36 => ?_) (fun h36 => ?_)
  · rw [if_pos h36] at hF
    refine am_Rr.go 1 (σ' := (204, [some (.ref 13), some (.ref 5), some (.int a), some (.int (am_nat14 (x.1 449) (x.2.2.1 15) (a + 1)))], [.int 0], x)) rfl ?_
    obtain rfl := Option.some.inj hF
    exact am_Rr.ret (v := some (.int 0)) (x := x) rfl (by first | exact Or.inl rfl | exact Or.inr rfl | assumption) ⟨rfl, rfl⟩
  rw [if_neg h36] at hF
  refine am_Rr.ite (fun h37 => ?_) (fun h37 => ?_)
  · rw [if_pos h37] at hF
    refine am_Rr.go 1 (σ' := (204, [some (.ref 13), some (.ref 5), some (.int a), some (.int (am_nat14 (x.1 449) (x.2.2.1 15) (a + 1)))], [.int 0], x)) rfl ?_
    obtain rfl := Option.some.inj hF
    exact am_Rr.ret (v := some (.int 0)) (x := x) rfl (by first | exact Or.inl rfl | exact Or.inr rfl | assumption) ⟨rfl, rfl⟩
  rw [if_neg h37] at hF
  refine am_Rr.ite (fun h38 => ?_) (fun h38 => ?_)
  · rw [if_pos h38] at hF
    refine am_Rr.go 4 (σ' := (127, [some (.ref 13), some (.ref 5), some (.int a), some (.int (am_nat14 (x.1 449) (x.2.2.1 15) (a + 1)))], [.int (((am_nat14 (x.1 449) (x.2.2.1 15) (a + 1)).toUInt32 % 65536).toInt32), .ref 1006, .ref 5], x)) rfl ?_
    refine am_Rr.call (M := mJ0_indexOf_0f7a4) (as := [.ref 1006, .int (((am_nat14 (x.1 449) (x.2.2.1 15) (a + 1)).toUInt32 % 65536).toInt32)]) (x := x) (pc := 130) (ls := [some (.ref 13), some (.ref 5), some (.int a), some (.int (am_nat14 (x.1 449) (x.2.2.1 15) (a + 1)))]) (st := [.ref 5]) rfl (E_indexOf d 1006 (((am_nat14 (x.1 449) (x.2.2.1 15) (a + 1)).toUInt32 % 65536).toInt32) (by decide) x) ?_
    rintro _ _ ⟨rfl, rfl⟩
    show am_Rr _ _ (130, [some (.ref 13), some (.ref 5), some (.int a), some (.int (am_nat14 (x.1 449) (x.2.2.1 15) (a + 1)))], [.int (am_idx (((am_nat14 (x.1 449) (x.2.2.1 15) (a + 1)).toUInt32 % 65536).toInt32) (am_byt 1006) 0), .ref 5], x) _
    refine am_Rr.go 4 (σ' := (134, [some (.ref 13), some (.ref 5), some (.int a), some (.int (am_nat14 (x.1 449) (x.2.2.1 15) (a + 1)))], [.int (a + 2), .ref 13, .int (am_idx (((am_nat14 (x.1 449) (x.2.2.1 15) (a + 1)).toUInt32 % 65536).toInt32) (am_byt 1006) 0), .ref 5], x)) rfl ?_
    cases g41 : G_X5_pairAt_13 (a + 2) x with
    | none => rw [g41] at hF; cases hF
    | some q_ =>
      obtain ⟨r39, x40⟩ := q_
      rw [g41] at hF
      dsimp only at hF
      refine am_Rr.call (pc := 137) (ls := [some (.ref 13), some (.ref 5), some (.int a), some (.int (am_nat14 (x.1 449) (x.2.2.1 15) (a + 1)))]) (st := [.int (am_idx (((am_nat14 (x.1 449) (x.2.2.1 15) (a + 1)).toUInt32 % 65536).toInt32) (am_byt 1006) 0), .ref 5]) rfl (A_X5_pairAt_13 (d + 1) g41) ?_
      rintro _ _ ⟨rfl, rfl⟩
      show am_Rr _ _ (137, [some (.ref 13), some (.ref 5), some (.int a), some (.int (am_nat14 (x.1 449) (x.2.2.1 15) (a + 1)))], [.int r39, .int (am_idx (((am_nat14 (x.1 449) (x.2.2.1 15) (a + 1)).toUInt32 % 65536).toInt32) (am_byt 1006) 0), .ref 5], x40) _
      refine am_Rr.go 4 (σ' := (141, [some (.ref 13), some (.ref 5), some (.int a), some (.int (am_nat14 (x.1 449) (x.2.2.1 15) (a + 1)))], [.int (a + 4), .ref 13, .int r39, .int (am_idx (((am_nat14 (x.1 449) (x.2.2.1 15) (a + 1)).toUInt32 % 65536).toInt32) (am_byt 1006) 0), .ref 5], x40)) rfl ?_
      cases g44 : G_X5_pairAt_13 (a + 4) x40 with
      | none => rw [g44] at hF; cases hF
      | some q_ =>
        obtain ⟨r42, x43⟩ := q_
        rw [g44] at hF
        dsimp only at hF
        refine am_Rr.call (pc := 144) (ls := [some (.ref 13), some (.ref 5), some (.int a), some (.int (am_nat14 (x.1 449) (x.2.2.1 15) (a + 1)))]) (st := [.int r39, .int (am_idx (((am_nat14 (x.1 449) (x.2.2.1 15) (a + 1)).toUInt32 % 65536).toInt32) (am_byt 1006) 0), .ref 5]) rfl (A_X5_pairAt_13 (d + 1) g44) ?_
        rintro _ _ ⟨rfl, rfl⟩
        show am_Rr _ _ (144, [some (.ref 13), some (.ref 5), some (.int a), some (.int (am_nat14 (x.1 449) (x.2.2.1 15) (a + 1)))], [.int r42, .int r39, .int (am_idx (((am_nat14 (x.1 449) (x.2.2.1 15) (a + 1)).toUInt32 % 65536).toInt32) (am_byt 1006) 0), .ref 5], x43) _
        refine am_Rr.call (pc := 147) (ls := [some (.ref 13), some (.ref 5), some (.int a), some (.int (am_nat14 (x.1 449) (x.2.2.1 15) (a + 1)))]) (st := []) rfl (S_lay_5 (d + 2) (am_idx (((am_nat14 (x.1 449) (x.2.2.1 15) (a + 1)).toUInt32 % 65536).toInt32) (am_byt 1006) 0) r39 r42 x43) ?_
        rintro _ _ (⟨b45, rfl, rfl⟩ | ⟨b46, rfl, rfl⟩)
        · rw [if_pos b45] at hF
          show am_Rr _ _ (147, [some (.ref 13), some (.ref 5), some (.int a), some (.int (am_nat14 (x.1 449) (x.2.2.1 15) (a + 1)))], [.int 1], (am_lay5 x43 (am_idx (((am_nat14 (x.1 449) (x.2.2.1 15) (a + 1)).toUInt32 % 65536).toInt32) (am_byt 1006) 0) r39 r42)) _
          obtain rfl := Option.some.inj hF
          exact am_Rr.ret (v := some (.int 1)) (x := (am_lay5 x43 (am_idx (((am_nat14 (x.1 449) (x.2.2.1 15) (a + 1)).toUInt32 % 65536).toInt32) (am_byt 1006) 0) r39 r42)) rfl (by first | exact Or.inl rfl | exact Or.inr rfl | assumption) ⟨rfl, rfl⟩
        · rw [if_neg b46] at hF
          show am_Rr _ _ (147, [some (.ref 13), some (.ref 5), some (.int a), some (.int (am_nat14 (x.1 449) (x.2.2.1 15) (a + 1)))], [.int 0], x43) _
          obtain rfl := Option.some.inj hF
          exact am_Rr.ret (v := some (.int 0)) (x := x43) rfl (by first | exact Or.inl rfl | exact Or.inr rfl | assumption) ⟨rfl, rfl⟩
  rw [if_neg h38] at hF
  refine am_Rr.ite (fun h47 => ?_) (fun h47 => ?_)
  · rw [if_pos h47] at hF
    refine am_Rr.go 5 (σ' := (177, [some (.ref 13), some (.ref 5), some (.int a), some (.int (am_nat14 (x.1 449) (x.2.2.1 15) (a + 1)))], [.int (a + 1), .ref 13, .ref 5], x)) rfl ?_
    cases g50 : G_X5_digitAt_13 (a + 1) x with
    | none => rw [g50] at hF; cases hF
    | some q_ =>
      obtain ⟨r48, x49⟩ := q_
      rw [g50] at hF
      dsimp only at hF
      refine am_Rr.call (pc := 180) (ls := [some (.ref 13), some (.ref 5), some (.int a), some (.int (am_nat14 (x.1 449) (x.2.2.1 15) (a + 1)))]) (st := [.ref 5]) rfl (A_X5_digitAt_13 (d + 2) g50) ?_
      rintro _ _ ⟨rfl, rfl⟩
      show am_Rr _ _ (180, [some (.ref 13), some (.ref 5), some (.int a), some (.int (am_nat14 (x.1 449) (x.2.2.1 15) (a + 1)))], [.int r48, .ref 5], x49) _
      refine am_Rr.call (pc := 183) (ls := [some (.ref 13), some (.ref 5), some (.int a), some (.int (am_nat14 (x.1 449) (x.2.2.1 15) (a + 1)))]) (st := []) rfl (S_takeWarm_5 (d + 3) r48 x49) ?_
      rintro _ _ (⟨b51, rfl, rfl⟩ | ⟨b52, rfl, rfl⟩)
      · rw [if_pos b51] at hF
        show am_Rr _ _ (183, [some (.ref 13), some (.ref 5), some (.int a), some (.int (am_nat14 (x.1 449) (x.2.2.1 15) (a + 1)))], [.int 1], (am_uI x49 166 r48)) _
        obtain rfl := Option.some.inj hF
        exact am_Rr.ret (v := some (.int 1)) (x := (am_uI x49 166 r48)) rfl (by first | exact Or.inl rfl | exact Or.inr rfl | assumption) ⟨rfl, rfl⟩
      · rw [if_neg b52] at hF
        show am_Rr _ _ (183, [some (.ref 13), some (.ref 5), some (.int a), some (.int (am_nat14 (x.1 449) (x.2.2.1 15) (a + 1)))], [.int 0], x49) _
        obtain rfl := Option.some.inj hF
        exact am_Rr.ret (v := some (.int 0)) (x := x49) rfl (by first | exact Or.inl rfl | exact Or.inr rfl | assumption) ⟨rfl, rfl⟩
  rw [if_neg h47] at hF
  refine am_Rr.go 1 (σ' := (204, [some (.ref 13), some (.ref 5), some (.int a), some (.int (am_nat14 (x.1 449) (x.2.2.1 15) (a + 1)))], [.int 0], x)) rfl ?_
  obtain rfl := Option.some.inj hF
  exact am_Rr.ret (v := some (.int 0)) (x := x) rfl (by first | exact Or.inl rfl | exact Or.inr rfl | assumption) ⟨rfl, rfl⟩
