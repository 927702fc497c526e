/-! the first state: printed by wip/whole/p65.py -/
def am_i0 (k : Nat) : Int32 := if k = 36 then 14 else if k = 37 then 2 else if k = 38 then 5 else if k = 164 then 14 else if k = 165 then 2 else if k = 166 then 5 else if k = 292 then 14 else if k = 293 then 2 else if k = 294 then 5 else 0
def am_a0 (k : Nat) : Nat → Int32 := if k = 29 then (upd (upd (upd (fun _ => 0) 0 14) 1 2) 2 5) else if k = 32 then (upd (upd (upd (upd (upd (upd (fun _ => 0) 0 (vp_nar .char 107)) 1 (vp_nar .char 118)) 2 (vp_nar .char 104)) 3 (vp_nar .char 112)) 4 (vp_nar .char 119)) 5 (vp_nar .char 115)) else if k = 33 then (upd (upd (upd (upd (upd (upd (fun _ => 0) 0 (vp_nar .char 108)) 1 (vp_nar .char 104)) 2 (vp_nar .char 103)) 3 (vp_nar .char 115)) 4 (vp_nar .char 98)) 5 (vp_nar .char 114)) else if k = 34 then (upd (upd (upd (upd (upd (fun _ => 0) 0 (vp_nar .char 102)) 1 (vp_nar .char 110)) 2 (vp_nar .char 109)) 3 (vp_nar .char 101)) 4 (vp_nar .char 97)) else (fun _ => 0)
def am_b0 (k : Nat) : Nat → Int64 := if k = 2 then (vp_updL (fun _ => 0) 0 68719476735) else if k = 6 then (vp_updL (fun _ => 0) 0 68719476735) else if k = 10 then (vp_updL (fun _ => 0) 0 68719476735) else (fun _ => 0)
def am_x0 : am_X := (am_i0, fun _ => 0, am_a0, am_b0)
theorem am_i0_10 : am_i0 10 = 0 := by decide +kernel
theorem am_i0_35 : am_i0 35 = 0 := by decide +kernel
theorem am_i0_36 : am_i0 36 = 14 := by decide +kernel
theorem am_i0_37 : am_i0 37 = 2 := by decide +kernel
theorem am_i0_38 : am_i0 38 = 5 := by decide +kernel
theorem am_i0_163 : am_i0 163 = 0 := by decide +kernel
theorem am_i0_164 : am_i0 164 = 14 := by decide +kernel
theorem am_i0_165 : am_i0 165 = 2 := by decide +kernel
theorem am_i0_166 : am_i0 166 = 5 := by decide +kernel
theorem am_i0_291 : am_i0 291 = 0 := by decide +kernel
theorem am_i0_292 : am_i0 292 = 14 := by decide +kernel
theorem am_i0_293 : am_i0 293 = 2 := by decide +kernel
theorem am_i0_294 : am_i0 294 = 5 := by decide +kernel
theorem am_i0_449 : am_i0 449 = 0 := by decide +kernel
theorem am_i0_513 : am_i0 513 = 0 := by decide +kernel
theorem am_i0_577 : am_i0 577 = 0 := by decide +kernel
theorem am_i0_642 : am_i0 642 = 0 := by decide +kernel
theorem am_i0_800 : am_i0 800 = 0 := by decide +kernel
theorem am_i0_867 : am_i0 867 = 0 := by decide +kernel
theorem am_i0_869 : am_i0 869 = 0 := by decide +kernel
theorem am_i0_870 : am_i0 870 = 0 := by decide +kernel
theorem am_i0_871 : am_i0 871 = 0 := by decide +kernel
theorem am_i0_875 : am_i0 875 = 0 := by decide +kernel
theorem am_i0_883 : am_i0 883 = 0 := by decide +kernel
theorem am_i0_885 : am_i0 885 = 0 := by decide +kernel
theorem am_b0_2 : am_b0 2 = (vp_updL (fun _ => 0) 0 68719476735) := by simp [am_b0]
theorem am_a0_3 : am_a0 3 = (fun _ => 0) := by simp [am_a0]
theorem am_a0_4 : am_a0 4 = (fun _ => 0) := by simp [am_a0]
theorem am_b0_6 : am_b0 6 = (vp_updL (fun _ => 0) 0 68719476735) := by simp [am_b0]
theorem am_a0_7 : am_a0 7 = (fun _ => 0) := by simp [am_a0]
theorem am_a0_8 : am_a0 8 = (fun _ => 0) := by simp [am_a0]
theorem am_b0_10 : am_b0 10 = (vp_updL (fun _ => 0) 0 68719476735) := by simp [am_b0]
theorem am_a0_11 : am_a0 11 = (fun _ => 0) := by simp [am_a0]
theorem am_a0_12 : am_a0 12 = (fun _ => 0) := by simp [am_a0]
theorem am_a0_15 : am_a0 15 = (fun _ => 0) := by simp [am_a0]
theorem am_a0_17 : am_a0 17 = (fun _ => 0) := by simp [am_a0]
theorem am_b0_19 : am_b0 19 = (fun _ => 0) := by simp [am_b0]
theorem am_b0_21 : am_b0 21 = (fun _ => 0) := by simp [am_b0]
theorem am_b0_23 : am_b0 23 = (fun _ => 0) := by simp [am_b0]
theorem am_b0_24 : am_b0 24 = (fun _ => 0) := by simp [am_b0]
theorem am_a0_26 : am_a0 26 = (fun _ => 0) := by simp [am_a0]
theorem am_a0_28 : am_a0 28 = (fun _ => 0) := by simp [am_a0]
theorem am_a0_29 : am_a0 29 = (upd (upd (upd (fun _ => 0) 0 14) 1 2) 2 5) := by simp [am_a0]
theorem am_a0_30 : am_a0 30 = (fun _ => 0) := by simp [am_a0]
theorem am_a0_31 : am_a0 31 = (fun _ => 0) := by simp [am_a0]
theorem am_a0_32 : am_a0 32 = (upd (upd (upd (upd (upd (upd (fun _ => 0) 0 (vp_nar .char 107)) 1 (vp_nar .char 118)) 2 (vp_nar .char 104)) 3 (vp_nar .char 112)) 4 (vp_nar .char 119)) 5 (vp_nar .char 115)) := by simp [am_a0]
theorem am_a0_33 : am_a0 33 = (upd (upd (upd (upd (upd (upd (fun _ => 0) 0 (vp_nar .char 108)) 1 (vp_nar .char 104)) 2 (vp_nar .char 103)) 3 (vp_nar .char 115)) 4 (vp_nar .char 98)) 5 (vp_nar .char 114)) := by simp [am_a0]
theorem am_a0_34 : am_a0 34 = (upd (upd (upd (upd (upd (fun _ => 0) 0 (vp_nar .char 102)) 1 (vp_nar .char 110)) 2 (vp_nar .char 109)) 3 (vp_nar .char 101)) 4 (vp_nar .char 97)) := by simp [am_a0]
theorem am_a0_35 : am_a0 35 = (fun _ => 0) := by simp [am_a0]
theorem am_a0_36 : am_a0 36 = (fun _ => 0) := by simp [am_a0]
theorem am_a0_37 : am_a0 37 = (fun _ => 0) := by simp [am_a0]
theorem am_a0_38 : am_a0 38 = (fun _ => 0) := by simp [am_a0]
theorem am_a0_39 : am_a0 39 = (fun _ => 0) := by simp [am_a0]
theorem am_a0_40 : am_a0 40 = (fun _ => 0) := by simp [am_a0]
theorem am_a0_41 : am_a0 41 = (fun _ => 0) := by simp [am_a0]
theorem am_a0_42 : am_a0 42 = (fun _ => 0) := by simp [am_a0]
theorem am_b0_43 : am_b0 43 = (fun _ => 0) := by simp [am_b0]
theorem am_b0_44 : am_b0 44 = (fun _ => 0) := by simp [am_b0]
set_option maxRecDepth 100000 in
set_option maxHeartbeats 2000000 in
theorem am_W0 (ad : Nat → Nat) (tc : Nat → ClassId) : am_W ad tc am_x0 = [(ad 0, .inr (7, [.ref (ad 1), .ref (ad 5), .ref (ad 9), .ref (ad 13), .ref (ad 16), .ref (ad 18), .ref (ad 20), .ref (ad 22), .ref (ad 25), .ref (ad 26), .int 0])), (ad 1, .inr (1, [.ref (ad 2), .ref (ad 3), .ref (ad 4), .int 0, .int 14, .int 2, .int 5])), (ad 2, .inl (tc 1, 6, .inr (.inl (vp_updL (fun _ => 0) 0 68719476735)))), (ad 3, .inl (tc 0, 3, .inl (fun _ => 0))), (ad 4, .inl (tc 0, 3, .inl (fun _ => 0))), (ad 5, .inr (1, [.ref (ad 6), .ref (ad 7), .ref (ad 8), .int 0, .int 14, .int 2, .int 5])), (ad 6, .inl (tc 1, 6, .inr (.inl (vp_updL (fun _ => 0) 0 68719476735)))), (ad 7, .inl (tc 0, 3, .inl (fun _ => 0))), (ad 8, .inl (tc 0, 3, .inl (fun _ => 0))), (ad 9, .inr (1, [.ref (ad 10), .ref (ad 11), .ref (ad 12), .int 0, .int 14, .int 2, .int 5])), (ad 10, .inl (tc 1, 6, .inr (.inl (vp_updL (fun _ => 0) 0 68719476735)))), (ad 11, .inl (tc 0, 3, .inl (fun _ => 0))), (ad 12, .inl (tc 0, 3, .inl (fun _ => 0))), (ad 13, .inr (5, [.ref (ad 14)])), (ad 14, .inr (4, [.ref (ad 15), .int 0])), (ad 15, .inl (tc 0, 96, .inl (fun _ => 0))), (ad 16, .inr (4, [.ref (ad 17), .int 0])), (ad 17, .inl (tc 0, 12, .inl (fun _ => 0))), (ad 18, .inr (6, [.ref (ad 19), .int 0])), (ad 19, .inl (tc 1, 141, .inr (.inl (fun _ => 0)))), (ad 20, .inr (2, [.ref (ad 21), .long 0, .int 0])), (ad 21, .inl (tc 1, 3, .inr (.inl (fun _ => 0)))), (ad 22, .inr (0, [.ref (ad 23), .ref (ad 24)])), (ad 23, .inl (tc 1, 36, .inr (.inl (fun _ => 0)))), (ad 24, .inl (tc 1, 36, .inr (.inl (fun _ => 0)))), (ad 25, .inr (3, [.int 0])), (ad 26, .inl (tc 0, 7, .inl (fun _ => 0))), (ad 27, .inr (8, [.ref (ad 28), .ref (ad 29), .ref (ad 30), .int 0, .ref (ad 31), .int 0, .int 0, .int 0, .ref (ad 32), .ref (ad 33), .ref (ad 34), .int 0, .ref (ad 35), .ref (ad 36), .ref (ad 37), .ref (ad 38), .ref (ad 39), .ref (ad 40), .ref (ad 41), .int 0, .ref (ad 42), .int 0, .ref (ad 43), .ref (ad 44)])), (ad 28, .inl (tc 0, 7, .inl (fun _ => 0))), (ad 29, .inl (tc 0, 56, .inl (upd (upd (upd (fun _ => 0) 0 14) 1 2) 2 5))), (ad 30, .inl (tc 0, 56, .inl (fun _ => 0))), (ad 31, .inl (tc 0, 96, .inl (fun _ => 0))), (ad 32, .inl (tc 3, 6, .inl (upd (upd (upd (upd (upd (upd (fun _ => 0) 0 (vp_nar .char 107)) 1 (vp_nar .char 118)) 2 (vp_nar .char 104)) 3 (vp_nar .char 112)) 4 (vp_nar .char 119)) 5 (vp_nar .char 115)))), (ad 33, .inl (tc 3, 6, .inl (upd (upd (upd (upd (upd (upd (fun _ => 0) 0 (vp_nar .char 108)) 1 (vp_nar .char 104)) 2 (vp_nar .char 103)) 3 (vp_nar .char 115)) 4 (vp_nar .char 98)) 5 (vp_nar .char 114)))), (ad 34, .inl (tc 3, 5, .inl (upd (upd (upd (upd (upd (fun _ => 0) 0 (vp_nar .char 102)) 1 (vp_nar .char 110)) 2 (vp_nar .char 109)) 3 (vp_nar .char 101)) 4 (vp_nar .char 97)))), (ad 35, .inl (tc 0, 3, .inl (fun _ => 0))), (ad 36, .inl (tc 0, 56, .inl (fun _ => 0))), (ad 37, .inl (tc 2, 36, .inl (fun _ => 0))), (ad 38, .inl (tc 0, 36, .inl (fun _ => 0))), (ad 39, .inl (tc 2, 36, .inl (fun _ => 0))), (ad 40, .inl (tc 2, 36, .inl (fun _ => 0))), (ad 41, .inl (tc 0, 3, .inl (fun _ => 0))), (ad 42, .inl (tc 0, 12, .inl (fun _ => 0))), (ad 43, .inl (tc 1, 36, .inr (.inl (fun _ => 0)))), (ad 44, .inl (tc 1, 36, .inr (.inl (fun _ => 0))))] := by
  unfold am_W am_shp
  simp only [List.mapIdx_cons, List.mapIdx_nil, am_cell, List.map_cons, List.map_nil, am_fv, am_cv, Nat.reduceAdd, am_x0, am_i0_10, am_i0_35, am_i0_36, am_i0_37, am_i0_38, am_i0_163, am_i0_164, am_i0_165, am_i0_166, am_i0_291, am_i0_292, am_i0_293, am_i0_294, am_i0_449, am_i0_513, am_i0_577, am_i0_642, am_i0_800, am_i0_867, am_i0_869, am_i0_870, am_i0_871, am_i0_875, am_i0_883, am_i0_885, am_b0_2, am_a0_3, am_a0_4, am_b0_6, am_a0_7, am_a0_8, am_b0_10, am_a0_11, am_a0_12, am_a0_15, am_a0_17, am_b0_19, am_b0_21, am_b0_23, am_b0_24, am_a0_26, am_a0_28, am_a0_29, am_a0_30, am_a0_31, am_a0_32, am_a0_33, am_a0_34, am_a0_35, am_a0_36, am_a0_37, am_a0_38, am_a0_39, am_a0_40, am_a0_41, am_a0_42, am_b0_43, am_b0_44]
theorem am_nx0 (q : Nat) : am_a0 29 (20 + q) = 0 := by
  show (if 20 + q = 2 then (5 : Int32) else if 20 + q = 1 then 2 else if 20 + q = 0 then 14 else 0) = 0
  rw [if_neg (by omega), if_neg (by omega), if_neg (by omega)]
theorem am_x0_gd : am_gd (am_i0 35) (am_i0 36) (am_i0 37) (am_i0 38) (am_b0 2) (am_a0 3) (am_a0 4) (am_a0 29) := by
  refine ⟨fun q _ => ⟨0, by decide, by rw [am_nx0]; rfl⟩, fun k hk => ?_, ⟨14, by decide, rfl, rfl, by decide⟩, ⟨2, by decide, by decide, rfl, rfl⟩, ⟨5, by decide, rfl, rfl⟩, ⟨0, by decide, rfl, rfl, fun i h => absurd h (Nat.not_lt_zero i)⟩⟩
  by_cases h : k = 0
  · subst h
    exact abr_all.congr (fun q _ => by rw [am_nx0]; rfl)
  · have e : am_b0 2 k = 0 := by
      show (if k = 0 then (68719476735 : Int64) else 0) = 0
      rw [if_neg h]
    rw [e]
    refine abr_0.congr (fun q _ => ?_)
    rw [am_nx0]
    have : ¬ (0 : Int32) = nI k := fun e => h ((nI_eq (a := 0) (b := k) (by decide) (by omega)).mp e).symm
    exact (decide_eq_false this).symm
theorem am_x0_ok : am_Iv am_x0 := by
  refine ⟨am_x0_gd, Or.inl ⟨rfl, rfl⟩, ⟨0, by decide, rfl, rfl, fun i h => absurd h (Nat.not_lt_zero i)⟩, ⟨0, by decide, rfl, rfl, fun i h => absurd h (Nat.not_lt_zero i)⟩, fun i _ => rfl, fun q _ => rfl, ?_, ?_, ?_⟩
  · decide +kernel
  · decide +kernel
  · decide +kernel
