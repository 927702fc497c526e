/-! turnTo, set, seeker, stand -/
theorem ok_turnTo (a b : Int32) : am_ok (G_X7_turnTo a b) (G_X8_turnTo a b) := by
  intro x hI
  unfold G_X7_turnTo G_X8_turnTo
  by_cases h : am_sq a
  · obtain ⟨q, hq, rfl⟩ := am_nIsq h
    rw [if_pos h]
    by_cases b0 : b < 0
    · refine ⟨_, _, _, by rw [if_pos b0, c2], ?_, r78 (j := 2) hI⟩
      rw [ns_in hq]; dsimp only
      rw [if_pos rfl, if_pos b0, n2]
    by_cases b6 : b < 6
    · obtain ⟨k, hk', rfl⟩ := nI_of b0
      have hk : k < 6 := (nI_ltI (b := 6) hk' (by decide)).mp b6
      have b5 : nI k ≤ (5 : Int32) := nI_le (b := 5) (by omega) (by decide)
      obtain ⟨hm, hh, e1, e2, e3⟩ := hI.g.home
      have tq : (nI q).toInt = q := nI_toInt (by omega)
      have tk : (nI k).toInt = k := nI_toInt (by omega)
      have th : (nI hm).toInt = hm := nI_toInt (by omega)
      have hkat := hI.g.kat hq
      by_cases c : k = 1 ∧ q = hm
      · obtain ⟨rfl, rfl⟩ := c
        refine ⟨_, _, _, by rw [if_neg b0, if_pos b6, if_neg (by rw [e1, tq, tk]; omega), c3], ?_, r78 (j := 3) hI⟩
        rw [ns_in hq]; dsimp only
        rw [if_pos rfl, if_neg b0, if_pos b5, if_pos (show nI 1 = (1 : Int32) from rfl), if_pos (show nI q = (am_r7 3 x).2.2.1 29 0 from e2.symm), n3]
      · have cc : (am_sq (nI q) ∧ am_sq (nI q) ∧ (nI q).toInt ≤ (nI q).toInt ∧ 0 ≤ (nI k).toInt ∧ (nI k).toInt < 6 ∧ ¬ ((nI k).toInt = 1 ∧ (nI q).toInt ≤ (x.1 36).toInt ∧ (x.1 36).toInt ≤ (nI q).toInt)) :=
          ⟨h, h, by omega, by omega, by omega, by rw [e1, tq, tk, th]; omega⟩
        refine ⟨am_kat (x.2.2.2 2) (nI q), am_lay1 x (nI k) (nI q) (nI q), am_sA (am_lay1 x (nI k) (nI q) (nI q)) 29 (upd (x.2.2.1 29) (20 + q) (nI k)), by rw [if_neg b0, if_pos b6, if_pos cc], ?_, ?_⟩
        · have ix : 0 ≤ ((20 : Int32) + nI q).toInt ∧ ((20 : Int32) + nI q).toInt < 56 := by
            rw [show (20 : Int32) + nI q = nI (20 + q) from nI_add 20 q]
            exact nIr (b := 56) (by omega) (by decide)
          rw [ns_in hq]; dsimp only
          rw [if_pos rfl, if_neg b0, if_pos b5]
          by_cases k1 : nI k = 1
          · have : k = 1 := (nI_1e (by omega)).mp k1
            have hne : ¬ nI q = (am_lay1 x (nI k) (nI q) (nI q)).2.2.1 29 0 := by
              show ¬ nI q = x.2.2.1 29 0
              rw [e2]
              intro e
              exact c ⟨this, (nI_eq (by omega) (by omega)).mp e⟩
            rw [if_pos k1, if_neg hne, ko hq]; dsimp only
            rw [if_pos ix, show (20 : Int32) + nI q = nI (20 + q) from nI_add 20 q, nI_clamp (by omega), hkat]
            rfl
          · rw [if_neg k1, ko hq]; dsimp only
            rw [if_pos ix, show (20 : Int32) + nI q = nI (20 + q) from nI_add 20 q, nI_clamp (by omega), hkat]
            rfl
        · obtain ⟨g, im, ltr, row, ref, hel, cb, ck, cs⟩ := hI
          exact ⟨g.lay hk hq hq (Nat.le_refl _) hh e2 (by rintro ⟨r1, r2, r3⟩; exact c ⟨r1, by omega⟩) lay1, im, ltr, row, ref, hel, cb, ck, cs⟩
    · refine ⟨_, _, _, by rw [if_neg b0, if_neg b6, c2], ?_, r78 (j := 2) hI⟩
      rw [ns_in hq]; dsimp only
      have b5 : ¬ b ≤ (5 : Int32) := by
        rw [ii_lt] at b6; rw [ii_le]
        have h6 : (6 : Int32).toInt = 6 := by decide
        have h5 : (5 : Int32).toInt = 5 := by decide
        omega
      rw [if_pos rfl, if_neg b0, if_neg b5, n2]
  · rw [if_neg h]
    refine ⟨_, _, _, by rw [c1], ?_, r78 (j := 1) hI⟩
    rw [ns_out h]; dsimp only
    rw [if_neg (by decide), n1]
theorem t9 : (9 : Int32).toInt = 9 := by decide
theorem t1 : (1 : Int32).toInt = 1 := by decide
theorem ok_set (a b : Int32) : am_ok (G_X7_set a b) (G_X8_set a b) := by
  intro x hI
  unfold G_X7_set G_X8_set
  by_cases a0 : a = 0
  · subst a0
    have s1 : ¬ (0 : Int32) < 0 := by decide
    have s2 : (0 : Int32) ≤ 2 := by decide
    have s3 : 0 ≤ (0 : Int32).toInt ∧ (0 : Int32).toInt < 56 := by decide
    unfold G_X7_setHome
    by_cases h : am_sq b
    · obtain ⟨q, hq, rfl⟩ := am_nIsq h
      obtain ⟨hm, hh, e1, e2, e3⟩ := hI.g.home
      by_cases o : x.2.2.1 29 (20 + q) = 1
      · refine ⟨_, _, _, by rw [if_pos rfl, if_pos h, if_neg (fun m => (hI.g.open_at hq).mp m o), c3], ?_, r78 (j := 3) hI⟩
        rw [if_neg s1, if_pos s2, if_pos rfl, ns_in hq]; dsimp only
        rw [if_pos rfl, ko hq]; dsimp only
        rw [if_pos (show (am_r7 3 x).2.2.1 29 (20 + q) = 1 from o), n3]
      · refine ⟨x.1 36, am_uI x 36 (nI q), am_sA (am_uI x 36 (nI q)) 29 (upd (x.2.2.1 29) 0 (nI q)), by rw [if_pos rfl, if_pos h, if_pos ((hI.g.open_at hq).mpr o)], ?_, ?_⟩
        · rw [if_neg s1, if_pos s2, if_pos rfl, ns_in hq]; dsimp only
          rw [if_pos rfl, ko hq]; dsimp only
          rw [if_neg (show ¬ (am_uI x 36 (nI q)).2.2.1 29 (20 + q) = 1 from o), if_pos s3, e1, ← e2]
          rfl
        · obtain ⟨g, im, ltr, row, ref, hel, cb, ck, cs⟩ := hI
          exact ⟨gd_home g hq o, im, ltr, row, ref, hel, cb, ck, cs⟩
    · refine ⟨_, _, _, by rw [if_pos rfl, if_neg h, c1], ?_, r78 (j := 1) hI⟩
      rw [if_neg s1, if_pos s2, if_pos rfl, ns_out h]; dsimp only
      rw [if_neg (by decide), n1]
  by_cases a1 : a = 1
  · subst a1
    have s1 : ¬ (1 : Int32) < 0 := by decide
    have s2 : (1 : Int32) ≤ 2 := by decide
    have s3 : 0 ≤ (1 : Int32).toInt ∧ (1 : Int32).toInt < 56 := by decide
    have s4 : ¬ (1 : Int32) = 0 := by decide
    unfold G_X7_setPace
    obtain ⟨p, h1, h2, e1, e2⟩ := hI.g.pace
    by_cases b1 : (1 : Int32) ≤ b
    · have b1' := b1
      rw [ii_le, t1] at b1'
      by_cases b9 : b ≤ 9
      · have b9' := b9
        rw [ii_le, t9] at b9'
        obtain ⟨q, hq, rfl⟩ := nI_of (x := b) (by rw [ii_lt, t0]; omega)
        rw [nI_toInt hq] at b1' b9'
        refine ⟨x.1 37, am_uI x 37 (nI q), am_sA (am_uI x 37 (nI q)) 29 (upd (x.2.2.1 29) 1 (nI q)), by rw [if_neg s4, if_pos rfl, if_pos b1, if_pos (by rw [nI_toInt hq]; omega)], ?_, ?_⟩
        · rw [if_neg s1, if_pos s2, if_neg s4, if_pos (show (2 : Int32) - 1 ≤ nI q from b1), if_pos b9, if_pos s3, e1, ← e2]
          rfl
        · obtain ⟨g, im, ltr, row, ref, hel, cb, ck, cs⟩ := hI
          exact ⟨gd_pace g (by omega) (by omega), im, ltr, row, ref, hel, cb, ck, cs⟩
      · refine ⟨_, _, _, by rw [if_neg s4, if_pos rfl, if_pos b1, if_neg (fun c => b9 (by rw [ii_le, t9]; exact c.2)), c6], ?_, r78 (j := 6) hI⟩
        rw [if_neg s1, if_pos s2, if_neg s4, if_pos (show (2 : Int32) - 1 ≤ b from b1), if_neg b9, n6]
    · refine ⟨_, _, _, by rw [if_neg s4, if_pos rfl, if_neg b1, c4], ?_, r78 (j := 4) hI⟩
      rw [if_neg s1, if_pos s2, if_neg s4, if_neg (show ¬ (2 : Int32) - 1 ≤ b from b1), n4]
  by_cases a2 : a = 2
  · subst a2
    have s1 : ¬ (2 : Int32) < 0 := by decide
    have s2 : (2 : Int32) ≤ 2 := by decide
    have s3 : 0 ≤ (2 : Int32).toInt ∧ (2 : Int32).toInt < 56 := by decide
    have s4 : ¬ (2 : Int32) = 0 := by decide
    have s5 : ¬ (2 : Int32) = 1 := by decide
    unfold G_X7_setWarm
    obtain ⟨p, h1, e1, e2⟩ := hI.g.warm
    by_cases b1 : (0 : Int32) ≤ b
    · have b1' := b1
      rw [ii_le, t0] at b1'
      by_cases b9 : b ≤ 9
      · have b9' := b9
        rw [ii_le, t9] at b9'
        obtain ⟨q, hq, rfl⟩ := nI_of (x := b) (by rw [ii_lt, t0]; omega)
        rw [nI_toInt hq] at b1' b9'
        refine ⟨x.1 38, am_uI x 38 (nI q), am_sA (am_uI x 38 (nI q)) 29 (upd (x.2.2.1 29) 2 (nI q)), by rw [if_neg s4, if_neg s5, if_pos rfl, if_pos b1, if_pos (by rw [nI_toInt hq]; omega)], ?_, ?_⟩
        · rw [if_neg s1, if_pos s2, if_neg s4, if_pos (show (2 : Int32) - 2 ≤ nI q from b1), if_pos b9, if_pos s3, e1, ← e2]
          rfl
        · obtain ⟨g, im, ltr, row, ref, hel, cb, ck, cs⟩ := hI
          exact ⟨gd_warm g (by omega), im, ltr, row, ref, hel, cb, ck, cs⟩
      · refine ⟨_, _, _, by rw [if_neg s4, if_neg s5, if_pos rfl, if_pos b1, if_neg (fun c => b9 (by rw [ii_le, t9]; exact c.2)), c6], ?_, r78 (j := 6) hI⟩
        rw [if_neg s1, if_pos s2, if_neg s4, if_pos (show (2 : Int32) - 2 ≤ b from b1), if_neg b9, n6]
    · refine ⟨_, _, _, by rw [if_neg s4, if_neg s5, if_pos rfl, if_neg b1, c4], ?_, r78 (j := 4) hI⟩
      rw [if_neg s1, if_pos s2, if_neg s4, if_neg (show ¬ (2 : Int32) - 2 ≤ b from b1), n4]
  · refine ⟨_, _, _, by rw [if_neg a0, if_neg a1, if_neg a2, c2], ?_, r78 (j := 2) hI⟩
    by_cases l : a < 0
    · rw [if_pos l, n2]
    · have u : ¬ a ≤ 2 := by
        intro u
        obtain ⟨q, hq, rfl⟩ := nI_of l
        have : q ≤ 2 := (nI_leI (b := 2) hq (by decide)).mp u
        have : q = 0 ∨ q = 1 ∨ q = 2 := by omega
        rcases this with rfl | rfl | rfl
        · exact a0 rfl
        · exact a1 rfl
        · exact a2 rfl
      rw [if_neg l, if_neg u, n2]
/-- a seeker's number -/
theorem hs_iff {n : Nat} (hn : n ≤ 3) (a : Int32) : am_hs (nI n) a ↔ ∃ i, i < n ∧ a = nI i := by
  constructor
  · rintro ⟨h1, h2, h3⟩
    obtain ⟨q, hq, rfl⟩ := nI_of (x := a) (by rw [ii_lt, t0]; omega)
    rw [nI_toInt hq, nI_toInt (by omega)] at h2
    exact ⟨q, by omega, rfl⟩
  · rintro ⟨i, hi, rfl⟩
    refine ⟨?_, ?_, ?_⟩ <;> rw [nI_toInt (by omega)]
    · omega
    · rw [nI_toInt (by omega)]; omega
    · omega
theorem nsk {n : Nat} (hn : n ≤ 3) (a : Int32) (x : am_X) (e : x.2.2.1 29 3 = nI n) : G_X8_isNoSeeker a x = some (if am_hs (nI n) a then 0 else 1, x) := by
  unfold G_X8_isNoSeeker
  by_cases h : am_hs (nI n) a
  · rw [if_pos h]
    obtain ⟨i, hi, rfl⟩ := (hs_iff hn a).mp h
    rw [if_neg (nI_pos (by omega)), e, if_pos (nI_lt hi (by omega))]
  · rw [if_neg h, e]
    by_cases l : a < 0
    · rw [if_pos l]
    · rw [if_neg l, if_neg]
      intro u
      obtain ⟨q, hq, rfl⟩ := nI_of l
      exact h ((hs_iff hn _).mpr ⟨q, (nI_ltI hq (by omega)).mp u, rfl⟩)
theorem ifs_at {n i : Nat} (hn : n ≤ 3) (hi : i < n) (f : Nat → Int32) (e : Int32) : am_ifs (nI n) f (nI i) e = f i := by
  unfold am_ifs
  rw [if_pos ((hs_iff hn _).mpr ⟨i, hi, rfl⟩), nI_clamp (by omega)]
theorem sk_ix {i : Nat} (b : Nat) (hb : b < 2) (hi : i < 3) : ((10 : Int32) + ((2 : Int32) * nI i)) + nI b = nI (10 + 2 * i + b) := by
  have : ∀ i, i < 3 → ∀ b, b < 2 → ((10 : Int32) + ((2 : Int32) * nI i)) + nI b = nI (10 + 2 * i + b) := by decide +kernel
  exact this i hi b hb
theorem ok_seeker (a b : Int32) : am_ok (G_X7_seeker a b) (G_X8_seeker a b) := by
  intro x hI
  unfold G_X7_seeker G_X8_seeker
  obtain ⟨n, hn, e1, e2, hs⟩ := hI.g.seek
  by_cases h : am_hs (nI n) a
  · obtain ⟨i, hi, rfl⟩ := (hs_iff hn a).mp h
    obtain ⟨⟨k, hk, k1, k2⟩, ⟨q, hq, q1, q2⟩⟩ := hs i hi
    by_cases b0 : b = 0
    · subst b0
      refine ⟨_, _, x, by rw [e1, if_pos h, if_pos rfl, ifs_at hn hi], ?_, hI⟩
      rw [nsk hn _ _ e2, if_pos h]; dsimp only
      have ix : 0 ≤ (nI (10 + 2 * i + 0)).toInt ∧ (nI (10 + 2 * i + 0)).toInt < 56 := nIr (b := 56) (by omega) (by decide)
      rw [if_pos rfl, if_pos rfl, show ((10 : Int32) + ((2 : Int32) * nI i)) + 0 = nI (10 + 2 * i + 0) from sk_ix 0 (by decide) (by omega), if_pos ix, nI_clamp (by omega), k1, ← k2]
      rfl
    by_cases b1 : b = 1
    · subst b1
      refine ⟨_, _, x, by rw [e1, if_pos h, if_neg b0, if_pos rfl, ifs_at hn hi], ?_, hI⟩
      rw [nsk hn _ _ e2, if_pos h]; dsimp only
      have ix : 0 ≤ (nI (10 + 2 * i + 1)).toInt ∧ (nI (10 + 2 * i + 1)).toInt < 56 := nIr (b := 56) (by omega) (by decide)
      rw [if_pos rfl, if_neg b0, if_pos rfl, show ((10 : Int32) + ((2 : Int32) * nI i)) + 1 = nI (10 + 2 * i + 1) from sk_ix 1 (by decide) (by omega), if_pos ix, nI_clamp (by omega), q1, ← q2]
    · refine ⟨_, _, _, by rw [e1, if_pos h, if_neg b0, if_neg b1, c2], ?_, r78 (j := 2) hI⟩
      rw [nsk hn _ (am_r7 2 x) e2, if_pos h]; dsimp only
      rw [if_pos rfl, if_neg b0, if_neg b1, n2]
  · refine ⟨_, _, _, by rw [e1, if_neg h, c1], ?_, r78 (j := 1) hI⟩
    rw [nsk hn _ (am_r7 1 x) e2, if_neg h]; dsimp only
    rw [if_neg (by decide), n1]
theorem ok_stand (a b : Int32) : am_ok (G_X7_stand a b) (G_X8_stand a b) := by
  intro x hI
  unfold G_X7_stand G_X8_stand
  obtain ⟨n, hn, e1, e2, hs⟩ := hI.g.seek
  by_cases h : am_hs (nI n) a
  · obtain ⟨i, hi, rfl⟩ := (hs_iff hn a).mp h
    obtain ⟨⟨k, hk, k1, k2⟩, ⟨q, hq, q1, q2⟩⟩ := hs i hi
    by_cases s : am_sq b
    · obtain ⟨p, hp, rfl⟩ := am_nIsq s
      refine ⟨x.2.2.1 4 i, am_sA x 4 (upd (x.2.2.1 4) i (nI p)), am_sA (am_sA x 4 (upd (x.2.2.1 4) i (nI p))) 29 (upd (x.2.2.1 29) (10 + 2 * i + 1) (nI p)), by rw [e1, if_pos h, if_pos s, if_pos h, ifs_at hn hi, nI_clamp (by omega)], ?_, ?_⟩
      · rw [nsk hn _ _ (show (am_sA x 4 (upd (x.2.2.1 4) i (nI p))).2.2.1 29 3 = nI n from e2), if_pos h]; dsimp only
        rw [if_pos rfl, ns_in hp]; dsimp only
        have ix : 0 ≤ (nI (10 + 2 * i + 1)).toInt ∧ (nI (10 + 2 * i + 1)).toInt < 56 := nIr (b := 56) (by omega) (by decide)
        rw [if_pos rfl, show ((10 : Int32) + ((2 : Int32) * nI i)) + 1 = nI (10 + 2 * i + 1) from sk_ix 1 (by decide) (by omega), if_pos ix, nI_clamp (by omega), q1, ← q2]
        rfl
      · obtain ⟨g, im, ltr, row, ref, hel, cb, ck, cs⟩ := hI
        exact ⟨gd_seat g (by omega) hp, im, ltr, row, ref, hel, cb, ck, cs⟩
    · refine ⟨_, _, _, by rw [e1, if_pos h, if_neg s, c1], ?_, r78 (j := 1) hI⟩
      rw [nsk hn _ (am_r7 1 x) e2, if_pos h]; dsimp only
      rw [if_pos rfl, ns_out s]; dsimp only
      rw [if_neg (by decide), n1]
  · refine ⟨_, _, _, by rw [e1, if_neg h, c1], ?_, r78 (j := 1) hI⟩
    rw [nsk hn _ (am_r7 1 x) e2, if_neg h]; dsimp only
    rw [if_neg (by decide), n1]
