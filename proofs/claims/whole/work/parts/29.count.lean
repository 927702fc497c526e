/-! count -/
theorem ct_loop (x : am_X) (k : Nat) (hk : k < 6) (hkin : ∀ q, q < 36 → ∃ k, k < 6 ∧ x.2.2.1 29 (20 + q) = nI k) : ∃ a b c, L_X8_count_52 1000 (nI k) 0 0 x = some (a, b, c, x) ∧ b = nI (fb_ct (fun q => kd (x.2.2.1 29) q k) 36) := by
  obtain ⟨r, hF, a, b, c, rfl, hb⟩ := am_for (fun n i (s : Int32) => L_X8_count_52 n (nI k) s (nI i) x) 36 (fun i s => s = nI (fb_ct (fun q => kd (x.2.2.1 29) q k) i)) (fun r => ∃ a b c, r = (a, b, c, x) ∧ b = nI (fb_ct (fun q => kd (x.2.2.1 29) q k) 36))
    (fun n i s hi hp => Or.inl (by
      have h1 : ¬ (36 : Int32) ≤ nI i := nI_ge (b := 36) hi (by decide)
      by_cases e : x.2.2.1 29 (20 + i) = nI k
      · refine ⟨s + 1, ?_, ?_⟩
        · rw [hp, fb_ct_succ, nI_1]
          simp [kd, e]
        · rw [L_X8_count_52, if_neg h1, ko hi]
          dsimp only
          rw [if_pos e, nI_1]
      · refine ⟨s + 0, ?_, ?_⟩
        · rw [hp, fb_ct_succ]
          simp [kd, e]
        · rw [L_X8_count_52, if_neg h1, ko hi]
          dsimp only
          rw [if_neg e, nI_1]))
    (fun n s hp => ⟨_, by rw [L_X8_count_52, if_pos (by decide)], _, _, _, rfl, hp⟩)
    1000 0 0 (by decide) (by decide) rfl
  exact ⟨a, b, c, hF, hb⟩
theorem ref_out (a : Int32) (h : a.toInt < 0 ∨ 16 < a.toInt) (x : am_X) : G_X7_refusalsOf ((10 : Int32) - a) x = some (-9, x) := by
  unfold G_X7_refusalsOf
  have hr := fb_rng a
  have e : ((10 : Int32) - a).toInt = ((10 : Int) - a.toInt).bmod (2 ^ 32) := by rw [Int32.toInt_sub]; rfl
  have m1 : (-1 : Int32).toInt = -1 := by decide
  have m6 : (-6 : Int32).toInt = -6 := by decide
  rw [Int.bmod_def] at e
  by_cases c : (-1 : Int32) < 10 - a
  · rw [if_pos c]
  · rw [if_neg c, if_neg]
    intro d
    rw [ii_lt, m1] at c
    rw [ii_le, m6] at d
    split at e <;> omega
theorem ct_ref {x : am_X} (hI : am_Iv x) {j : Nat} (h1 : 11 ≤ j) (h2 : j ≤ 16) : G_X7_refusalsOf ((10 : Int32) - nI j) x = some (x.2.2.1 28 (j - 10), x) ∧ (0 ≤ (nI j - 10).toInt ∧ (nI j - 10).toInt < 7) ∧ (nI j - 10).toNatClampNeg = j - 10 := by
  have : ∀ j, j ≤ 16 → 11 ≤ j → (¬ (-1 : Int32) < 10 - nI j) ∧ ((-6 : Int32) ≤ 10 - nI j) ∧ (0 ≤ (-(10 - nI j)).toInt ∧ (-(10 - nI j)).toInt < 7) ∧ (-(10 - nI j)).toNatClampNeg = j - 10 ∧ (0 ≤ (nI j - 10).toInt ∧ (nI j - 10).toInt < 7) ∧ (nI j - 10).toNatClampNeg = j - 10 := by decide +kernel
  obtain ⟨a1, a2, a3, a4, a5, a6⟩ := this j h2 h1
  refine ⟨?_, a5, a6⟩
  unfold G_X7_refusalsOf
  rw [if_neg a1, if_pos a2, if_pos a3, a4, hI.ref _ (by omega)]
theorem nI_nat {j m : Nat} (hj : j < 2 ^ 31) (hm : m < 2 ^ 31) (h : j ≠ m) : ¬ nI j = nI m := fun e => h ((nI_eq hj hm).mp e)
theorem ok_count (a : Int32) : am_ok (G_X7_count a) (G_X8_count a) := by
  intro x hI
  obtain ⟨h, hh, e1, e2, e3⟩ := hI.g.home
  obtain ⟨p, p1, p2, p3, p4⟩ := hI.g.pace
  obtain ⟨v, v1, v2, v3⟩ := hI.g.warm
  obtain ⟨s, s1, s2, s3, s4⟩ := hI.g.seek
  obtain ⟨l, l1, l2, l3, l4⟩ := hI.ltr
  obtain ⟨r, r1, r2, r3, r4⟩ := hI.row
  have ct : ∀ k, k < 6 → am_bc (x.2.2.2 2 k) = nI (fb_ct (fun q => kd (x.2.2.1 29) q k) 36) := fun k hk => (hI.g.sq k hk).bc
  by_cases hn : a < 0
  · have ht : a.toInt < 0 := by rw [ii_lt, t0] at hn; exact hn
    have nz : ∀ j, j < 2 ^ 31 → ¬ a = nI j := fun j hj e => by rw [e] at hn; exact nI_pos hj hn
    refine ⟨-9, x, x, ?_, ?_, hI⟩
    · unfold G_X7_count
      rw [if_neg (show ¬ a = (0 : Int32) from nz 0 (by decide)), if_neg (show ¬ a = (1 : Int32) from nz 1 (by decide)), if_neg (show ¬ a = (2 : Int32) from nz 2 (by decide)), if_neg (show ¬ a = (3 : Int32) from nz 3 (by decide)), if_neg (show ¬ a = (4 : Int32) from nz 4 (by decide)), if_neg (show ¬ a = (5 : Int32) from nz 5 (by decide)), if_neg (show ¬ a = (6 : Int32) from nz 6 (by decide)), if_neg (show ¬ a = (7 : Int32) from nz 7 (by decide)), if_neg (show ¬ a = (8 : Int32) from nz 8 (by decide)), ref_out a (Or.inl ht)]
    · unfold G_X8_count
      have q4 : a < 4 := by rw [ii_lt]; have : (4 : Int32).toInt = 4 := by decide
                            omega
      have q11 : a < 11 := by rw [ii_lt]; have : (11 : Int32).toInt = 11 := by decide
                              omega
      rw [if_pos hn, if_pos q4, if_neg (show ¬ a = (7 : Int32) from nz 7 (by decide)), if_neg (show ¬ a = (8 : Int32) from nz 8 (by decide)), if_pos q11]
  obtain ⟨j, hj, rfl⟩ := nI_of hn
  have nz : ∀ m, m < 2 ^ 31 → j ≠ m → ¬ nI j = nI m := fun m hm e => nI_nat hj hm e
  by_cases c16 : 16 < j
  · refine ⟨-9, x, x, ?_, ?_, hI⟩
    · unfold G_X7_count
      rw [if_neg (show ¬ nI j = (0 : Int32) from nz 0 (by decide) (by omega)), if_neg (show ¬ nI j = (1 : Int32) from nz 1 (by decide) (by omega)), if_neg (show ¬ nI j = (2 : Int32) from nz 2 (by decide) (by omega)), if_neg (show ¬ nI j = (3 : Int32) from nz 3 (by decide) (by omega)), if_neg (show ¬ nI j = (4 : Int32) from nz 4 (by decide) (by omega)), if_neg (show ¬ nI j = (5 : Int32) from nz 5 (by decide) (by omega)), if_neg (show ¬ nI j = (6 : Int32) from nz 6 (by decide) (by omega)), if_neg (show ¬ nI j = (7 : Int32) from nz 7 (by decide) (by omega)), if_neg (show ¬ nI j = (8 : Int32) from nz 8 (by decide) (by omega)), ref_out _ (Or.inr (by rw [nI_toInt hj]; omega))]
    · unfold G_X8_count
      rw [if_neg hn, if_pos (show (3 : Int32) < nI j from nI_lt (a := 3) (by omega) hj), if_neg (show ¬ nI j < (4 : Int32) from nI_nlt (b := 4) (by omega) hj), if_pos (show (6 : Int32) < nI j from nI_lt (a := 6) (by omega) hj), if_neg (show ¬ nI j = (7 : Int32) from nz 7 (by decide) (by omega)), if_neg (show ¬ nI j = (8 : Int32) from nz 8 (by decide) (by omega)), if_neg (show ¬ nI j < (11 : Int32) from nI_nlt (b := 11) (by omega) hj), if_pos (show (16 : Int32) < nI j from nI_lt (a := 16) (by omega) hj)]
  by_cases c11 : 11 ≤ j
  · obtain ⟨b1, b2, b3⟩ := ct_ref hI c11 (by omega)
    refine ⟨x.2.2.1 28 (j - 10), x, x, ?_, ?_, hI⟩
    · unfold G_X7_count
      rw [if_neg (show ¬ nI j = (0 : Int32) from nz 0 (by decide) (by omega)), if_neg (show ¬ nI j = (1 : Int32) from nz 1 (by decide) (by omega)), if_neg (show ¬ nI j = (2 : Int32) from nz 2 (by decide) (by omega)), if_neg (show ¬ nI j = (3 : Int32) from nz 3 (by decide) (by omega)), if_neg (show ¬ nI j = (4 : Int32) from nz 4 (by decide) (by omega)), if_neg (show ¬ nI j = (5 : Int32) from nz 5 (by decide) (by omega)), if_neg (show ¬ nI j = (6 : Int32) from nz 6 (by decide) (by omega)), if_neg (show ¬ nI j = (7 : Int32) from nz 7 (by decide) (by omega)), if_neg (show ¬ nI j = (8 : Int32) from nz 8 (by decide) (by omega)), b1]
    · unfold G_X8_count
      rw [if_neg hn, if_pos (show (3 : Int32) < nI j from nI_lt (a := 3) (by omega) hj), if_neg (show ¬ nI j < (4 : Int32) from nI_nlt (b := 4) (by omega) hj), if_pos (show (6 : Int32) < nI j from nI_lt (a := 6) (by omega) hj), if_neg (show ¬ nI j = (7 : Int32) from nz 7 (by decide) (by omega)), if_neg (show ¬ nI j = (8 : Int32) from nz 8 (by decide) (by omega)), if_neg (show ¬ nI j < (11 : Int32) from nI_nlt (b := 11) (by omega) hj), if_neg (show ¬ (16 : Int32) < nI j from nI_nlt (a := 16) (by omega) (by decide)), if_pos b2, b3]
  have : j = 0 ∨ j = 1 ∨ j = 2 ∨ j = 3 ∨ j = 4 ∨ j = 5 ∨ j = 6 ∨ j = 7 ∨ j = 8 ∨ j = 9 ∨ j = 10 := by omega
  rcases this with rfl | rfl | rfl | rfl | rfl | rfl | rfl | rfl | rfl | rfl | rfl
  · exact ⟨nI h, x, x, by rw [← e1]; rfl, by rw [← e2]; rfl, hI⟩
  · exact ⟨nI p, x, x, by rw [← p3]; rfl, by rw [← p4]; rfl, hI⟩
  · exact ⟨nI v, x, x, by rw [← v2]; rfl, by rw [← v3]; rfl, hI⟩
  · exact ⟨nI s, x, x, by rw [← s2]; rfl, by rw [← s3]; rfl, hI⟩
  · obtain ⟨a, b, c, hF, hb⟩ := ct_loop x 1 (by decide) hI.g.kin
    refine ⟨b, x, x, ?_, ?_, hI⟩
    · rw [hb, ← ct 1 (by decide)]; rfl
    · have : G_X8_count (nI 4) x = (match L_X8_count_52 1000 (nI 1) 0 0 x with | none => none | some (v25, v26, v27, x24) => some (v26, x24)) := rfl
      rw [this, hF]
  · obtain ⟨a, b, c, hF, hb⟩ := ct_loop x 2 (by decide) hI.g.kin
    refine ⟨b, x, x, ?_, ?_, hI⟩
    · rw [hb, ← ct 2 (by decide)]; rfl
    · have : G_X8_count (nI 5) x = (match L_X8_count_52 1000 (nI 2) 0 0 x with | none => none | some (v25, v26, v27, x24) => some (v26, x24)) := rfl
      rw [this, hF]
  · obtain ⟨a, b, c, hF, hb⟩ := ct_loop x 5 (by decide) hI.g.kin
    refine ⟨b, x, x, ?_, ?_, hI⟩
    · rw [hb, ← ct 5 (by decide)]; rfl
    · have : G_X8_count (nI 6) x = (match L_X8_count_52 1000 (nI 5) 0 0 x with | none => none | some (v25, v26, v27, x24) => some (v26, x24)) := rfl
      rw [this, hF]
  · exact ⟨nI r, x, x, by rw [← r2]; rfl, by rw [← r3]; rfl, hI⟩
  · exact ⟨nI l, x, x, by rw [← l2]; rfl, by rw [← l3]; rfl, hI⟩
  · exact ⟨-9, x, x, rfl, rfl, hI⟩
  · exact ⟨-9, x, x, rfl, rfl, hI⟩
